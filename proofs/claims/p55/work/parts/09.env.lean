/-! what is only read: members of nest mates, texts, the enum's constants and its row, statics -/
def gx_isNest : Cond → Bool
  | .methodLinkNest .. => true
  | .fieldLinkNest .. => true
  | _ => false
def gx_nest : List Cond := lw_tbl.filter gx_isNest
theorem gx_nest_in {w : Cond} (i : Nat) (h : lw_tbl[i]? = some w) (g : gx_isNest w = true) : w ∈ gx_nest := List.mem_filter.mpr ⟨List.mem_of_getElem? h, g⟩
/-- words on tables that no law keeps: declares, castable -/
def gx_isFace : Cond → Bool
  | .declares _ => true
  | .castable .. => true
  | .privateMethod _ => true
  | _ => false
def gx_face : List Cond := lw_tbl.filter gx_isFace
/-- exceptions that are not of the other class -/
def gx_ncs : List (String × String) := [("java/lang/IllegalArgumentException", "java/lang/IndexOutOfBoundsException"), ("java/lang/IllegalStateException", "java/lang/IllegalArgumentException"), ("java/lang/IllegalStateException", "java/lang/IndexOutOfBoundsException"), ("java/lang/IllegalStateException", "java/lang/UnsupportedOperationException"), ("java/lang/UnsupportedOperationException", "java/lang/IllegalArgumentException"), ("java/lang/UnsupportedOperationException", "java/lang/IllegalStateException"), ("java/lang/UnsupportedOperationException", "java/lang/IndexOutOfBoundsException"), ("java/util/NoSuchElementException", "java/lang/IllegalArgumentException"), ("java/util/NoSuchElementException", "java/lang/IllegalStateException"), ("java/util/NoSuchElementException", "java/lang/IndexOutOfBoundsException")]
abbrev gx_AA : Type := (Nat → Nat) × (Nat → Nat) × (Nat → Nat) × (Nat → Nat) × Nat × Nat × Nat × (Nat → Int32)
/-- the script: its cell, its length, its ints -/
abbrev xB (aa : gx_AA) : Nat := aa.2.2.2.2.2.1
abbrev xL (aa : gx_AA) : Nat := aa.2.2.2.2.2.2.1
abbrev xS (aa : gx_AA) : Nat → Int32 := aa.2.2.2.2.2.2.2
/-- the texts: blank, flag and a blank, add, move, fire, order, wait, flag -/
def gx_tx : List (List Int32) := [[32], [102, 108, 97, 103, 32], [97, 100, 100], [109, 111, 118, 101], [102, 105, 114, 101], [111, 114, 100, 101, 114], [119, 97, 105, 116], [102, 108, 97, 103], [59, 102, 105, 114, 101, 32, 48], [59, 97, 100, 100, 32, 48, 32, 49, 32], [59, 109, 111, 118, 101, 32], [32, 48], [59]]
def gx_len (i : Nat) : Nat := (gx_tx.getD i []).length
def gx_chr (i j : Nat) : Int32 := (gx_tx.getD i []).getD j 0
/-- where the texts are named: class, place in its pool, text, its number above -/
def gx_strs : List (String × Nat × String × Nat) := [("CommandChainLaw", 269, " ", 0), ("CommandChainLaw", 260, "flag ", 1), ("CommandChainLaw", 274, ";fire 0", 8), ("CommandChainLaw", 276, ";add 0 1 ", 9), ("CommandChainLaw", 282, ";move ", 10), ("CommandChainLaw", 284, " 0", 11), ("CommandChainLaw", 286, ";", 12)]
def gx_msgs : List (Nat × String) := [(301, "no such officer in the navy"), (310, "an argument is out of range"), (312, "the state does not allow it"), (314, "this can't be done now"), (316, "the flag is not in the code book"), (130, "the admiral has no superior"), (305, "the second officer is not below the first one"), (177, "the severity is out of range"), (180, "nobody would refuse the order"), (303, "no such order"), (219, "the meaning is out of range"), (227, "no such place"), (234, "no order has ended"), (249, "the input buffer is full"), (264, "the text is malformed"), (271, "a command failed"), (284, "no such character of the output"), (296, "no call can be undone"), (298, "no state was saved")]
def gx_vn : List String := ["ADD", "MOVE", "FIRE", "ORDER", "FLAG", "WAIT"]
/-- the word of a constant of the enum -/
def gx_wd (i : Nat) : Nat := [2, 3, 4, 5, 7, 6].getD i 0
/-- a row's own size -/
def sz_T (t N : Nat) (A : Nat → Prop) (H : Heap) : Prop := (∃ c : Cell, H[t]? = some c ∧ c.slots.size = N) ∧ ¬ A t
theorem sz_T.kept {t N : Nat} {A : Nat → Prop} {H H1 : Heap} (hq : ∀ a : Nat, a < H.size → ¬ A a → H1[a]? = H[a]?) (h : sz_T t N A H) : sz_T t N A H1 := by
  obtain ⟨⟨c, h1, h2⟩, h3⟩ := h
  exact ⟨⟨c, by rw [hq t (Array.getElem?_eq_some_iff.mp h1).1 h3]; exact h1, h2⟩, h3⟩
theorem sz_T.narrow {t N : Nat} {A B : Nat → Prop} {H : Heap} (hAB : ∀ q, B q → A q) (h : sz_T t N A H) : sz_T t N B H := ⟨h.1, fun z => h.2 (hAB _ z)⟩
def gx_E0 (aa : gx_AA) : gx_E := fun A U H =>
  (∀ w ∈ gx_nest, va_Nw w U) ∧
  (∀ i : Nat, i < 13 → va_O "java/lang/String" (aa.1 i) A U H ∧ va_OF "java/lang/String" "coder" "B" (.int 0) (aa.1 i) A U H ∧ va_OF "java/lang/String" "value" "[B" (.ref (aa.2.1 i)) (aa.1 i) A U H ∧ va_T .byte (aa.2.1 i) (gx_len i) (fun j => .int (gx_chr i j)) A U H) ∧
  (∀ q ∈ gx_strs, vk_R q.1 q.2.1 q.2.2.1 (aa.1 q.2.2.2) U) ∧
  (∀ q ∈ gx_msgs, vk_R "CommandChain" q.1 q.2 (aa.2.2.2.1 q.1) U) ∧
  (∀ i : Nat, i < 6 → va_Z "CommandChain$Verb" (gx_vn.getD i "") "LCommandChain$Verb;" (.ref (aa.2.2.1 i)) A U H ∧ va_O "CommandChain$Verb" (aa.2.2.1 i) A U H ∧ va_OF "CommandChain$Verb" "word" "Ljava/lang/String;" (.ref (aa.1 (gx_wd i))) (aa.2.2.1 i) A U H) ∧
  (∀ i j : Nat, i < 6 → j < 6 → aa.2.2.1 i = aa.2.2.1 j → i = j) ∧
  va_Z "CommandChain$Verb" "ALL" "[LCommandChain$Verb;" (.ref aa.2.2.2.2.1) A U H ∧
  va_T (.object "CommandChain$Verb") aa.2.2.2.2.1 6 (fun j => .ref (aa.2.2.1 j)) A U H ∧
  va_Z "java/lang/String" "COMPACT_STRINGS" "Z" (.int 1) A U H ∧
  va_Zq "jdk/internal/util/Preconditions" "SIOOBE_FORMATTER" "Ljava/util/function/BiFunction;" A U H ∧
  vx_Zq Bundle.tN "UNASSIGNED_STACK" Bundle.steD A U H ∧ vx_Zq Bundle.tN "SUPPRESSED_SENTINEL" Bundle.listD A U H ∧
  (∀ w ∈ gx_face, va_Nw w U) ∧ va_AO "CommandChain$Navy" U ∧
  (∀ q ∈ gx_ncs, va_Nc q.1 q.2 U) ∧
  va_Z "java/lang/Integer" "DigitTens" "[B" (.ref (aa.2.2.2.1 5000)) A U H ∧ va_T .byte (aa.2.2.2.1 5000) 100 (fun j => .int (nI (48 + j / 10))) A U H ∧
  va_Z "java/lang/Integer" "DigitOnes" "[B" (.ref (aa.2.2.2.1 5001)) A U H ∧ va_T .byte (aa.2.2.2.1 5001) 100 (fun j => .int (nI (48 + j % 10))) A U H ∧
  va_X (xB aa) (xL aa) (xS aa) U H ∧ xB aa < H.size ∧ ¬ A (xB aa) ∧ (∀ i : Nat, i < 13 → sz_T (aa.2.1 i) (gx_len i) A H) ∧ sz_T (aa.2.2.2.1 5000) 100 A H ∧ sz_T (aa.2.2.2.1 5001) 100 A H
theorem gx_nest_mv {w : Cond} (hw : gx_isNest w = true) {u U : State} (h : U.vm = u.vm ∨ u.WarmedH U.vm) (hZ : va_Nw w u) : va_Nw w U := by
  cases w <;> first
    | (simp [gx_isNest] at hw; done)
    | (rcases h with h | h
       · exact va_Nw.same rfl h.symm hZ
       · first | exact va_Nw.warmF h hZ | exact va_Nw.warmM h hZ)
theorem gx_face_mv0 {w : Cond} (hw : gx_isFace w = true) {u U : State} (ha : u.vm.Alike U.vm) (hZ : va_Nw w u) : va_Nw w U := by
  cases w <;> first
    | (simp [gx_isFace] at hw; done)
    | exact va_tabs (u := u.setVm U.vm) (U := U) rfl rfl (Cond.faceAtom_setVm ha _ rfl hZ)
theorem gx_al {u U : State} (h : U.vm = u.vm ∨ u.WarmedH U.vm) : u.vm.Alike U.vm := by
  rcases h with h | h
  · rw [h]; exact Vm.Alike.refl _
  · exact h.alike
theorem gx_szk {b L : Nat} {xs : Nat → Int32} {U : State} {H H1 : Heap} (h : va_X b L xs U H) (hq : H1[b]? = H[b]?) : b < H1.size := by
  obtain ⟨scr, h1, -⟩ := h
  rw [← hq] at h1
  exact (Array.getElem?_eq_some_iff.mp h1).1
theorem gx_E0_ok (aa : gx_AA) : gx_Ek (gx_E0 aa) := by
  refine ⟨fun A u U H hv h => ?_, fun A U H H1 h hq => ?_, fun A B U H hAB h => ?_⟩
  · obtain ⟨h1, h2, h3, h4, h5, h6, h7, h8, h9, h10, h11, h12, h13, h14, h15, h16, h17, h18, h19, h20, h21, h22, h23, h24, h25⟩ := h
    have ha := gx_al hv
    refine ⟨fun w hw => gx_nest_mv (List.mem_filter.mp hw).2 hv (h1 w hw), fun i hi => ?_, fun q hq => ?_, fun q hq => ?_, fun i hi => ?_, h6, h7.moved ha, h8.moved ha, h9.moved ha, h10.moved ha, h11.moved ha, h12.moved ha, fun w hw => gx_face_mv0 (List.mem_filter.mp hw).2 ha (h13 w hw), h14.moved ha, fun q hq => (h15 q hq).moved ha, h16.moved ha, h17.moved ha, h18.moved ha, h19.moved ha, h20.moved ha, h21, h22, h23, h24, h25⟩
    · obtain ⟨g1, g2, g3, g4⟩ := h2 i hi
      exact ⟨g1.moved ha, g2.moved ha, g3.moved ha, g4.moved ha⟩
    · rcases hv with hv | hv
      · exact vk_R.same hv (h3 q hq)
      · exact vk_R.warm hv (h3 q hq)
    · rcases hv with hv | hv
      · exact vk_R.same hv (h4 q hq)
      · exact vk_R.warm hv (h4 q hq)
    · obtain ⟨g1, g2, g3⟩ := h5 i hi
      exact ⟨g1.moved ha, g2.moved ha, g3.moved ha⟩
  · obtain ⟨h1, h2, h3, h4, h5, h6, h7, h8, h9, h10, h11, h12, h13, h14, h15, h16, h17, h18, h19, h20, h21, h22, h23, h24, h25⟩ := h
    refine ⟨h1, fun i hi => ?_, h3, h4, fun i hi => ?_, h6, h7.kept hq, h8.kept hq, h9.kept hq, h10.kept hq, h11.kept hq, h12.kept hq, h13, h14, h15, h16.kept hq, h17.kept hq, h18.kept hq, h19.kept hq, h20.kept (hq _ h21 h22), gx_szk h20 (hq _ h21 h22), h22, fun i hi => (h23 i hi).kept hq, h24.kept hq, h25.kept hq⟩
    · obtain ⟨g1, g2, g3, g4⟩ := h2 i hi
      exact ⟨g1.kept hq, g2.kept hq, g3.kept hq, g4.kept hq⟩
    · obtain ⟨g1, g2, g3⟩ := h5 i hi
      exact ⟨g1.kept hq, g2.kept hq, g3.kept hq⟩
  · obtain ⟨h1, h2, h3, h4, h5, h6, h7, h8, h9, h10, h11, h12, h13, h14, h15, h16, h17, h18, h19, h20, h21, h22, h23, h24, h25⟩ := h
    refine ⟨h1, fun i hi => ?_, h3, h4, fun i hi => ?_, h6, h7.narrow hAB, h8.narrow hAB, h9.narrow hAB, h10.narrow hAB, h11.narrow hAB, h12.narrow hAB, h13, h14, h15, h16.narrow hAB, h17.narrow hAB, h18.narrow hAB, h19.narrow hAB, h20, h21, (fun z => h22 (hAB _ z)), fun i hi => (h23 i hi).narrow hAB, h24.narrow hAB, h25.narrow hAB⟩
    · obtain ⟨g1, g2, g3, g4⟩ := h2 i hi
      exact ⟨g1.narrow hAB, g2.narrow hAB, g3.narrow hAB, g4.narrow hAB⟩
    · obtain ⟨g1, g2, g3⟩ := h5 i hi
      exact ⟨g1.narrow hAB, g2.narrow hAB, g3.narrow hAB⟩
