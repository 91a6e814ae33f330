/-! what the start gives: the classes, the texts, the constants -/
def nr_l : List Cond := flatC (Jvm.Cond.and given_1 narrow_1)
def sT (i : Nat) : Term := match i with
  | 0 => .string "CommandChainLaw" 269
  | 1 => .string "CommandChainLaw" 260
  | 2 => .string "CommandChain$Verb" 46
  | 3 => .string "CommandChain$Verb" 52
  | 4 => .string "CommandChain$Verb" 55
  | 5 => .string "CommandChain$Verb" 58
  | 6 => .string "CommandChain$Verb" 64
  | 7 => .string "CommandChain$Verb" 61
  | 8 => .string "CommandChainLaw" 274
  | 9 => .string "CommandChainLaw" 276
  | 10 => .string "CommandChainLaw" 282
  | 11 => .string "CommandChainLaw" 284
  | _ => .string "CommandChainLaw" 286
def eT (i : Nat) : Term := .static "CommandChain$Verb" (gx_vn.getD i "") "LCommandChain$Verb;"
def aT : Term := .static "CommandChain$Verb" "ALL" "[LCommandChain$Verb;"
def vT (i : Nat) : Term := .field (sT i) "java/lang/String" "value" "[B"
def ixS : List Nat := [623, 614, 970, 977, 985, 993, 1010, 1002, 628, 639, 659, 669, 675]
def ixE : List Nat := [228, 231, 235, 240, 246, 253]
def ixP : List Nat := [0, 234, 238, 243, 249, 256]
def ixM : List Nat := [362, 490, 521, 552, 578, 393, 424, 784, 816, 473, 753, 884, 901, 680, 708, 733, 849, 923, 948]
def ixN : List Nat := [270, 322, 271, 340, 323, 306, 272, 321, 304, 269]
def dtT : Term := .static "java/lang/Integer" "DigitTens" "[B"
def doT : Term := .static "java/lang/Integer" "DigitOnes" "[B"
theorem nr_i {w : Cond} (i : Nat) (h : nr_l[i]? = some w) : w ∈ nr_l := List.mem_of_getElem? h
theorem n_ex : ∀ i, i < 13 → nr_l[ixS.getD i 0]? = some (Cond.exactly (sT i) "java/lang/String") := by decide +kernel
theorem n_co : ∀ i, i < 13 → nr_l[ixS.getD i 0 + 1]? = some (Cond.eq (.field (sT i) "java/lang/String" "coder" "B") (.int 0)) := by decide +kernel
theorem n_ar : ∀ i, i < 13 → nr_l[ixS.getD i 0 + 2]? = some (Cond.arrayOf (vT i) .byte) := by decide +kernel
theorem n_ln : ∀ i, i < 13 → nr_l[ixS.getD i 0 + 3]? = some (Cond.eq (.length (vT i)) (.int (Int32.ofNat (gx_len i)))) := by decide +kernel
theorem n_el : ∀ i, i < 13 → ∀ j, j < gx_len i → nr_l[ixS.getD i 0 + 4 + j]? = some (Cond.eq (.elem (vT i) (.int (Int32.ofNat j))) (.int (gx_chr i j))) := by decide +kernel
theorem n_lt31 : ∀ i, i < 13 → gx_len i < 10 := by decide
theorem n_strs : ∀ q ∈ gx_strs, q.2.2.2 < 13 ∧ Cond.stringRef q.1 q.2.1 q.2.2.1 ∈ lw_tbl := by decide +kernel
theorem n_str1 : ∀ q ∈ gx_strs, Term.string q.1 q.2.1 = sT q.2.2.2 := by decide +kernel
theorem n_msg1 : ∀ i, i < 19 → nr_l[ixM.getD i 0]? = (gx_msgs[i]?).map (fun q => Cond.exactly (.string "CommandChain" q.1) "java/lang/String") := by decide +kernel
theorem n_msg2 : ∀ q ∈ gx_msgs, Cond.stringRef "CommandChain" q.1 q.2 ∈ lw_tbl := by decide +kernel
theorem n_ncs : ∀ i, i < 10 → nr_l[ixN.getD i 0]? = (gx_ncs[i]?).map (fun q => Cond.not (.castable q.1 q.2)) := by decide +kernel
theorem n_e1 : ∀ i, i < gx_vn.length → Cond.laysStatic "CommandChain$Verb" (gx_vn.getD i "") "LCommandChain$Verb;" ∈ lw_tbl := by decide +kernel
theorem n_e2 : ∀ i, i < gx_vn.length → nr_l[ixE.getD i 0]? = some (Cond.exactly (.static "CommandChain$Verb" (gx_vn.getD i "") "LCommandChain$Verb;") "CommandChain$Verb") := by decide +kernel
theorem n_e3 : ∀ i, i < 6 → nr_l[ixE.getD i 0 + 2]? = some (Cond.eq (.field (eT i) "CommandChain$Verb" "word" "Ljava/lang/String;") (sT (gx_wd i))) := by decide +kernel
theorem n_e4 : ∀ j, j < gx_vn.length → ∀ i, i < j → nr_l[ixP.getD j 0 + i]? = some (Cond.not (.eq (.static "CommandChain$Verb" (gx_vn.getD i "") "LCommandChain$Verb;") (.static "CommandChain$Verb" (gx_vn.getD j "") "LCommandChain$Verb;"))) := by decide +kernel
theorem n_a1 : Cond.arrayOf aT (.object "CommandChain$Verb") ∈ nr_l := nr_i 219 (by decide +kernel)
theorem n_a2 : Cond.eq (.length aT) (.int (Int32.ofNat 6)) ∈ nr_l := nr_i 220 (by decide +kernel)
theorem n_a3 : ∀ j, j < 6 → nr_l[222 + j]? = some (Cond.eq (.elem aT (.int (Int32.ofNat j))) (eT j)) := by decide +kernel
theorem n_dt1 : Cond.laysStatic "java/lang/Integer" "DigitTens" "[B" ∈ lw_tbl := by decide +kernel
theorem n_dt2 : Cond.arrayOf dtT .byte ∈ nr_l := nr_i 115 (by decide +kernel)
theorem n_dt3 : Cond.eq (.length dtT) (.int (Int32.ofNat 100)) ∈ nr_l := nr_i 116 (by decide +kernel)
theorem n_dt4 : ∀ j, j < 100 → nr_l[117 + j]? = some (Cond.eq (.elem dtT (.int (Int32.ofNat j))) (.int (nI (48 + j / 10)))) := by decide +kernel
theorem n_do1 : Cond.laysStatic "java/lang/Integer" "DigitOnes" "[B" ∈ lw_tbl := by decide +kernel
theorem n_do2 : Cond.arrayOf doT .byte ∈ nr_l := nr_i 12 (by decide +kernel)
theorem n_do3 : Cond.eq (.length doT) (.int (Int32.ofNat 100)) ∈ nr_l := nr_i 13 (by decide +kernel)
theorem n_do4 : ∀ j, j < 100 → nr_l[14 + j]? = some (Cond.eq (.elem doT (.int (Int32.ofNat j))) (.int (nI (48 + j % 10)))) := by decide +kernel
theorem z_sT {b : Nat} {s : State} {A : Nat → Prop} {tm : Term} {N t : Nat} (hl : (Cond.eq (.length tm) (.int (Int32.ofNat N))).before #[Value.ref b] s = true) (ht : tm.eval #[Value.ref b] s none [] s = some (.ref t)) (hA : ∀ a : Nat, a < s.heap.size → ¬ A a) (hN : N < 2 ^ 31) : sz_T t N A s.heap := by
  have hlen := va_eqt hl
  obtain ⟨t', cell, ht', hat, hv⟩ := Term.length_spec hlen
  cases ht.symm.trans ht'
  have hlt : cell.slots.size < 2 ^ 31 := by
    have h := hlen
    simp only [Term.eval, ht', hat, Option.bind_eq_bind, Option.bind_some] at h
    by_cases hn : cell.slots.size < 2 ^ 31
    · exact hn
    · simp [hn] at h
  have hc := (State.arrayAt?_spec hat).1
  refine ⟨⟨cell, hc, ?_⟩, hA t (Array.getElem?_eq_some_iff.mp hc).1⟩
  injection hv with hv1
  exact ((nI_eq hN hlt).mp hv1).symm
theorem n_int : Cond.initialized "java/lang/Integer" ∈ lw_tbl := by decide +kernel
theorem n_w1 : Cond.laysStatic "CommandChain$Verb" "ALL" "[LCommandChain$Verb;" ∈ lw_tbl := by decide +kernel
theorem n_w2 : Cond.initialized "CommandChain$Verb" ∈ lw_tbl := by decide +kernel
theorem n_w3 : Cond.laysStatic "java/lang/String" "COMPACT_STRINGS" "Z" ∈ lw_tbl := by decide +kernel
theorem n_w4 : Cond.initialized "java/lang/String" ∈ lw_tbl := by decide +kernel
theorem n_w5 : Cond.eq (.static "java/lang/String" "COMPACT_STRINGS" "Z") (.int 1) ∈ nr_l := nr_i 6 (by decide +kernel)
theorem n_w6 : Cond.laysStatic "jdk/internal/util/Preconditions" "SIOOBE_FORMATTER" "Ljava/util/function/BiFunction;" ∈ lw_tbl := by decide +kernel
theorem n_w7 : Cond.initialized "jdk/internal/util/Preconditions" ∈ lw_tbl := by decide +kernel
theorem n_w8 : Cond.isRef (.static "jdk/internal/util/Preconditions" "SIOOBE_FORMATTER" "Ljava/util/function/BiFunction;") ∈ nr_l := nr_i 7 (by decide +kernel)
theorem n_w9 : Cond.laysStatic Bundle.tN "UNASSIGNED_STACK" Bundle.steD ∈ lw_tbl := by decide +kernel
theorem n_w10 : Cond.laysStatic Bundle.tN "SUPPRESSED_SENTINEL" Bundle.listD ∈ lw_tbl := by decide +kernel
theorem n_w11 : Cond.initialized Bundle.tN ∈ lw_tbl := by decide +kernel
theorem n_w12 : Cond.isRef (.static Bundle.tN "UNASSIGNED_STACK" Bundle.steD) ∈ nr_l := nr_i 4 (by decide +kernel)
theorem n_w13 : Cond.isRef (.static Bundle.tN "SUPPRESSED_SENTINEL" Bundle.listD) ∈ nr_l := nr_i 5 (by decide +kernel)
theorem n_w14 : Cond.arrayOver (.object "CommandChain$Navy") ∈ lw_tbl := by decide +kernel
theorem n_kJ0 : ∀ w ∈ u_ws RJ0 TJ0 4, w ∈ lw_tbl := by decide +kernel
theorem n_kJx : ∀ w ∈ u_ws RJx00060 TJx00060 6, w ∈ lw_tbl := by decide +kernel
theorem n_kJ4 : ∀ w ∈ u_ws RJ4 TJ4 4, w ∈ lw_tbl := by decide +kernel
theorem n_k1 : ∀ q ∈ vwCl, ∀ w ∈ u_ws q.1 q.2.1 q.2.2, w ∈ lw_tbl := by
  intro q hq
  simp only [vwCl, List.mem_cons, List.not_mem_nil, or_false] at hq
  rcases hq with rfl | rfl | rfl | rfl | rfl | rfl | rfl | rfl | rfl | rfl | rfl
  · exact n_kJ0
  · exact n_kJx
  · exact fun w hw => lw_all_tbl (in_X0 w hw)
  · exact fun w hw => lw_all_tbl (in_X1 w hw)
  · exact fun w hw => lw_all_tbl (in_X2 w hw)
  · exact fun w hw => lw_all_tbl (in_X3 w hw)
  · exact fun w hw => lw_all_tbl (in_X4 w hw)
  · exact fun w hw => lw_all_tbl (in_X5 w hw)
  · exact fun w hw => lw_all_tbl (in_X6 w hw)
  · exact fun w hw => lw_all_tbl (in_X8 w hw)
  · exact n_kJ4
theorem n_k2 : ∀ q ∈ vwCl, Cond.instantiable q.1 (if q.1 = "java/lang/String" then 4 else q.2.2) ∈ lw_tbl := by decide +kernel
theorem n_t0 : Cond.arrayClass .int ∈ lw_tbl := by decide +kernel
theorem n_t1 : Cond.arrayClass .boolean ∈ lw_tbl := by decide +kernel
theorem n_t2 : Cond.arrayClass .char ∈ lw_tbl := by decide +kernel
theorem n_t4 : Cond.arrayClass .long ∈ lw_tbl := by decide +kernel
theorem n_t5 : Cond.arrayClass .byte ∈ lw_tbl := by decide +kernel
section St
variable {b : Nat} {s : State} {A : Nat → Prop}
theorem st_K (hts : ∀ w ∈ lw_tbl, w.before #[Value.ref b] s = true) : ∃ (D : va_G) (t : Nat → ClassId), va_K D vwCl (gx_t t) s := by
  have h0 : ∀ k : Nat, ∃ z : ClassId × (Nat → Nat), ∀ q, vwCl[k]? = some q → u_Kn s q.1 q.2.1 q.2.2 z.1 z.2 := by
    intro k
    cases hk : vwCl[k]? with
    | none => exact ⟨(0, fun _ => 0), fun q h => by cases h⟩
    | some q =>
      have hm := List.mem_of_getElem? hk
      obtain ⟨c, i, hc⟩ := u_known (C := q.1) (T := q.2.1) (N := q.2.2) hts (n_k1 q hm) (hts _ (n_k2 q hm))
      exact ⟨(c, i), fun q' h => by cases h; exact hc⟩
  obtain ⟨dz, hdz⟩ := Classical.axiomOfChoice h0
  obtain ⟨c0, k0, p0, f0, g0, e0⟩ := Cond.arrayClass_spec (hts _ n_t0)
  obtain ⟨c1, k1, p1, f1, g1, e1⟩ := Cond.arrayClass_spec (hts _ n_t1)
  obtain ⟨c2, k2, p2, f2, g2, e2⟩ := Cond.arrayClass_spec (hts _ n_t2)
  obtain ⟨p3, c3, k3, x1, x2, x3, x4, x5⟩ := Cond.arrayOver_spec (hts _ n_w14)
  obtain ⟨c4, k4, p4, f4, g4, e4⟩ := Cond.arrayClass_spec (hts _ n_t4)
  obtain ⟨c5, k5, p5, f5, g5, e5⟩ := Cond.arrayClass_spec (hts _ n_t5)
  refine ⟨(fun k => (dz k).1, fun k => (dz k).2), fun i => match i with
    | 0 => c0
    | 1 => c1
    | 2 => c2
    | 3 => c3
    | 4 => c4
    | _ => c5, hdz, fun k q hq => ?_⟩
  match k, hq with
  | 0, hq => cases hq; exact ⟨fun N z => ⟨(fun k h => by cases h), k0, g0, p0, e0⟩, f0⟩
  | 1, hq => cases hq; exact ⟨fun N z => ⟨(fun k h => by cases h), k1, g1, p1, e1⟩, f1⟩
  | 2, hq => cases hq; exact ⟨fun N z => ⟨(fun k h => by cases h), k2, g2, p2, e2⟩, f2⟩
  | 3, hq => cases hq; exact ⟨fun N z => ⟨(fun k h => by cases h), k3, x3, p3, x4⟩, k3, p3, x3, x4, x1, x5⟩
  | 4, hq => cases hq; exact ⟨fun N z => ⟨(fun k h => by cases h), k4, g4, p4, e4⟩, f4⟩
  | 5, hq => cases hq; exact ⟨fun N z => ⟨(fun k h => by cases h), k5, g5, p5, e5⟩, f5⟩
  | k + 6, hq => cases hq
theorem st_S (h : ∀ c ∈ nr_l, c.before #[Value.ref b] s = true) (hA : ∀ a : Nat, a < s.heap.size → ¬ A a) : ∃ adK adV : Nat → Nat, ∀ i, i < 13 → ((sT i).eval #[Value.ref b] s none [] s = some (.ref (adK i)) ∧ va_O "java/lang/String" (adK i) A s s.heap ∧ va_OF "java/lang/String" "coder" "B" (.int 0) (adK i) A s s.heap ∧ va_OF "java/lang/String" "value" "[B" (.ref (adV i)) (adK i) A s s.heap ∧ va_T .byte (adV i) (gx_len i) (fun j => .int (gx_chr i j)) A s s.heap) ∧ sz_T (adV i) (gx_len i) A s.heap := by
  have h0 : ∀ i : Nat, ∃ q : Nat × Nat, i < 13 → ((sT i).eval #[Value.ref b] s none [] s = some (.ref q.1) ∧ va_O "java/lang/String" q.1 A s s.heap ∧ va_OF "java/lang/String" "coder" "B" (.int 0) q.1 A s s.heap ∧ va_OF "java/lang/String" "value" "[B" (.ref q.2) q.1 A s s.heap ∧ va_T .byte q.2 (gx_len i) (fun j => .int (gx_chr i j)) A s s.heap) ∧ sz_T q.2 (gx_len i) A s.heap := by
    intro i
    by_cases hi : i < 13
    · obtain ⟨a, c, cA, kA, q1, q2, q3, q4, q5, q6, -⟩ := Cond.exactly_spec (args := #[Value.ref b]) (first := s) (o := none) (s := s) (idx := []) (t := sT i) (cls := "java/lang/String") (h _ (nr_i _ (n_ex i hi)))
      obtain ⟨t, ht, hT⟩ := va_Tof (f := fun j => .int (gx_chr i j)) (A := A) (N := gx_len i) (by have := n_lt31 i hi; omega) (h _ (nr_i _ (n_ar i hi))) (va_eqt (h _ (nr_i _ (n_ln i hi)))) (fun j hj => va_eqt (h _ (nr_i _ (n_el i hi j hj)))) hA
      exact ⟨(a, t), fun _ => ⟨⟨q1, ⟨cA, q3, q5, by rw [q6]; exact q2, hA a (Array.getElem?_eq_some_iff.mp q3).1⟩, vk_OFof q1 (va_eqt (h _ (nr_i _ (n_co i hi)))) hA, vk_OFof q1 ht hA, hT⟩, z_sT (h _ (nr_i _ (n_ln i hi))) ht hA (by have := n_lt31 i hi; omega)⟩⟩
    · exact ⟨(0, 0), fun h => absurd h hi⟩
  obtain ⟨ad, had⟩ := Classical.axiomOfChoice h0
  exact ⟨fun i => (ad i).1, fun i => (ad i).2, fun i hi => had i hi⟩
theorem st_E0 (hts : ∀ w ∈ lw_tbl, w.before #[Value.ref b] s = true) (h : ∀ c ∈ nr_l, c.before #[Value.ref b] s = true) (hA : ∀ a : Nat, a < s.heap.size → ¬ A a) {Ln : Nat} {xs : Nat → Int32} (hX : va_X b Ln xs s s.heap) (hbl : b < s.heap.size) : ∃ aa : gx_AA, (xB aa = b ∧ xL aa = Ln) ∧ gx_E0 aa A s s.heap := by
  obtain ⟨dT, hdT, hdTT⟩ := va_Tof (args := #[Value.ref b]) (s := s) (tm := dtT) (ty := .byte) (f := fun j => .int (nI (48 + j / 10))) (A := A) (N := 100) (by omega) (h _ n_dt2) (va_eqt (h _ n_dt3)) (fun j hj => va_eqt (h _ (nr_i _ (n_dt4 j hj)))) hA
  obtain ⟨dO, hdO, hdOT⟩ := va_Tof (args := #[Value.ref b]) (s := s) (tm := doT) (ty := .byte) (f := fun j => .int (nI (48 + j % 10))) (A := A) (N := 100) (by omega) (h _ n_do2) (va_eqt (h _ n_do3)) (fun j hj => va_eqt (h _ (nr_i _ (n_do4 j hj)))) hA
  obtain ⟨adK, adV, hS0⟩ := st_S (A := A) h hA
  have hS := fun i hi => (hS0 i hi).1
  have hSz := fun i hi => (hS0 i hi).2
  obtain ⟨adE, hE, hEv⟩ := va_Enof2 (args := #[Value.ref b]) (s := s) (E := "CommandChain$Verb") (d := "LCommandChain$Verb;") (nm := gx_vn) (F := []) (A := A) (fun i hi => hts _ (n_e1 i hi)) (hts _ n_w2) (fun i hi => h _ (nr_i _ (n_e2 i hi))) (fun q hq => by cases hq) (fun i j hi hj hij => by
    rcases Nat.lt_or_gt_of_ne hij with q | q
    · exact Or.inl (h _ (nr_i _ (n_e4 j hj i q)))
    · exact Or.inr (h _ (nr_i _ (n_e4 i hi j q)))) hA
  have hEf := va_Efof (args := #[Value.ref b]) (s := s) (N := 6) (E := "CommandChain$Verb") (d0 := "LCommandChain$Verb;") (o := "CommandChain$Verb") (n := "word") (d := "Ljava/lang/String;") (nm := gx_vn) (v := fun i => .ref (adK (gx_wd i))) (tm := fun i => sT (gx_wd i)) (ad := adE) (A := A) hEv (fun i hi => h _ (nr_i _ (n_e3 i hi))) (fun i hi => (hS _ (Nat.lt_trans (wd_lt i hi).1 (by decide))).1) hA
  obtain ⟨ta, hta, hTa⟩ := va_Tof (args := #[Value.ref b]) (s := s) (tm := aT) (ty := .object "CommandChain$Verb") (f := fun j => .ref (adE j)) (A := A) (N := 6) (by omega) (h _ n_a1) (va_eqt (h _ n_a2)) (fun j hj => va_eqv (h _ (nr_i _ (n_a3 j hj))) (hEv j hj)) hA
  have hM : ∀ q ∈ gx_msgs, ∃ a : Nat, (Term.string "CommandChain" q.1).eval #[Value.ref b] s none [] s = some (.ref a) := fun q hq => by
    obtain ⟨i, hi⟩ := List.mem_iff_getElem?.mp hq
    have hi2 : i < 19 := (List.getElem?_eq_some_iff.mp hi).1
    have hq1 : Cond.exactly (.string "CommandChain" q.1) "java/lang/String" ∈ nr_l := nr_i _ ((n_msg1 i hi2).trans (by rw [hi]; rfl))
    obtain ⟨a, c, cA, kA, q1, -⟩ := Cond.exactly_spec (args := #[Value.ref b]) (first := s) (o := none) (s := s) (idx := []) (h _ hq1)
    exact ⟨a, q1⟩
  have hM0 : ∀ k : Nat, ∃ a : Nat, ∀ q ∈ gx_msgs, q.1 = k → (Term.string "CommandChain" k).eval #[Value.ref b] s none [] s = some (.ref a) := fun k => by
    by_cases hk : ∃ q ∈ gx_msgs, q.1 = k
    · obtain ⟨q, hq, rfl⟩ := hk
      obtain ⟨a, ha⟩ := hM q hq
      exact ⟨a, fun _ _ _ => ha⟩
    · exact ⟨0, fun q hq e => absurd ⟨q, hq, e⟩ hk⟩
  obtain ⟨adM, hadM⟩ := Classical.axiomOfChoice hM0
  have hk9 : ∀ q ∈ gx_msgs, q.1 ≠ 5000 ∧ q.1 ≠ 5001 := by decide
  refine ⟨(adK, adV, adE, (fun k => if k = 5000 then dT else if k = 5001 then dO else adM k), ta, b, Ln, xs), ⟨rfl, rfl⟩, fun w hw => ?_, fun i hi => (hS i hi).2, fun q hq => ?_, fun q hq => ?_, fun i hi => ⟨(hE.1 i hi).1, (hE.1 i hi).2.1, hEf i hi⟩, fun i j hi hj e => hE.2 i j hi hj e, va_Zref (hts _ n_w1) (hts _ n_w2) hta hA, hTa, va_Zof (hts _ n_w3) (hts _ n_w4) (va_eqt (h _ n_w5)) hA, va_Zqof (hts _ n_w6) (hts _ n_w7) (h _ n_w8) hA, vx_Zqof (hts _ n_w9) (hts _ n_w11) (h _ n_w12) hA, vx_Zqof (hts _ n_w10) (hts _ n_w11) (h _ n_w13) hA, fun w hw => ?_, va_AO.of (hts _ n_w14), fun q hq => ?_, va_Zref (hts _ n_dt1) (hts _ n_int) hdT hA, hdTT, va_Zref (hts _ n_do1) (hts _ n_int) hdO hA, hdOT, hX, hbl, hA b hbl, hSz, z_sT (h _ n_dt3) hdT hA (by omega), z_sT (h _ n_do3) hdO hA (by omega)⟩
  · obtain ⟨h1, h2⟩ := List.mem_filter.mp hw
    have h3 := hts w h1
    cases w <;> first
      | (simp [gx_isNest] at h2; done)
      | exact va_Nw.of rfl h3
  · obtain ⟨h1, h2⟩ := n_strs q hq
    refine vk_R.of (hts _ h2) ?_
    rw [n_str1 q hq]; exact (hS _ h1).1
  · refine vk_R.of (hts _ (n_msg2 q hq)) ?_
    show (Term.string "CommandChain" q.1).eval #[Value.ref b] s none [] s = some (.ref (if q.1 = 5000 then dT else if q.1 = 5001 then dO else adM q.1))
    rw [if_neg (hk9 q hq).1, if_neg (hk9 q hq).2]
    exact hadM q.1 q hq rfl
  · obtain ⟨h1, h2⟩ := List.mem_filter.mp hw
    have h3 := hts w h1
    cases w <;> first
      | (simp [gx_isFace] at h2; done)
      | exact va_Nw.of rfl h3
  · obtain ⟨i, hi⟩ := List.mem_iff_getElem?.mp hq
    have hi2 : i < 10 := (List.getElem?_eq_some_iff.mp hi).1
    exact va_Nc.of (h _ (nr_i _ ((n_ncs i hi2).trans (by rw [hi]; rfl))))
end St
