theorem in_X5 : ∀ w ∈ u_ws RX5 TX5 6, w ∈ lw_all := fun w hw => List.mem_filter.mpr ⟨(by decide +kernel : ∀ w ∈ u_ws RX5 TX5 6, w ∈ lw_tbl) w hw, (by decide +kernel : ∀ w ∈ u_ws RX5 TX5 6, goodWord w = true) w hw⟩
theorem q_f_X5_18 : Cond.fieldLink RX5 18 "CommandChain$Script" "at" "I" ∈ lw_all := lw_in 230 (by decide +kernel) (by decide +kernel)
theorem q_i_X5_rewind : Cond.instanceMethod yX5_rewind ∈ lw_all := lw_in 1058 (by decide +kernel) (by decide +kernel)
theorem q_s_X5_rewind : Cond.selects yX5_rewind.cls yX5_rewind yX5_rewind ∈ lw_all := lw_in 1059 (by decide +kernel) (by decide +kernel)
theorem q_c_X5_rewind : Cond.code yX5_rewind cX5_rewind 1 none ∈ lw_all := lw_in 1060 (by decide +kernel) (by decide +kernel)
theorem q_l_X5_22 : Cond.methodLink RX5 22 yX5_rewind ∈ lw_all := lw_in 1057 (by decide +kernel) (by decide +kernel)
theorem q_n_X5 : Cond.initialized RX5 ∈ lw_all := lw_in 30 (by decide +kernel) (by decide +kernel)
theorem q_f_X5_84 : Cond.fieldLink RX5 84 "CommandChain$Verb" "word" "Ljava/lang/String;" ∈ lw_all := lw_in 1447 (by decide +kernel) (by decide +kernel)
theorem q_l_X5_98 : Cond.methodLink RX5 98 yJ0_length_8abf5 ∈ lw_all := lw_in 1083 (by decide +kernel) (by decide +kernel)
theorem q_l_X5_103 : Cond.methodLink RX5 103 yJ0_charAt_5068e ∈ lw_all := lw_in 1084 (by decide +kernel) (by decide +kernel)
theorem q_f_X5_12 : Cond.fieldLink RX5 12 "CommandChain$Script" "text" "LCommandChain$Text;" ∈ lw_all := lw_in 228 (by decide +kernel) (by decide +kernel)
theorem q_f_X5_29 : Cond.fieldLink RX5 29 "CommandChain$Text" "length" "I" ∈ lw_all := lw_in 220 (by decide +kernel) (by decide +kernel)
theorem q_f_X5_128 : Cond.fieldLink RX5 128 "CommandChain$Text" "characters" "[C" ∈ lw_all := lw_in 217 (by decide +kernel) (by decide +kernel)
theorem q_i_X5_stands : Cond.instanceMethod yX5_stands ∈ lw_all := lw_in 1071 (by decide +kernel) (by decide +kernel)
theorem q_s_X5_stands : Cond.selects yX5_stands.cls yX5_stands yX5_stands ∈ lw_all := lw_in 9 (by decide +kernel) (by decide +kernel)
theorem q_c_X5_stands : Cond.code yX5_stands cX5_stands 3 (some .boolean) ∈ lw_all := lw_in 1072 (by decide +kernel) (by decide +kernel)
theorem q_l_X5_107 : Cond.methodLink RX5 107 yX5_stands ∈ lw_all := lw_in 1069 (by decide +kernel) (by decide +kernel)
theorem q_f_X5_115 : Cond.fieldLink RX5 115 "CommandChain$Script" "first" "I" ∈ lw_all := lw_in 234 (by decide +kernel) (by decide +kernel)
theorem q_i_X5_readBetween : Cond.instanceMethod yX5_readBetween ∈ lw_all := lw_in 1098 (by decide +kernel) (by decide +kernel)
theorem q_s_X5_readBetween : Cond.selects yX5_readBetween.cls yX5_readBetween yX5_readBetween ∈ lw_all := lw_in 14 (by decide +kernel) (by decide +kernel)
theorem q_c_X5_readBetween : Cond.code yX5_readBetween cX5_readBetween 4 (some .int) ∈ lw_all := lw_in 1099 (by decide +kernel) (by decide +kernel)
theorem q_l_X5_124 : Cond.methodLink RX5 124 yX5_readBetween ∈ lw_all := lw_in 1096 (by decide +kernel) (by decide +kernel)
theorem q_f_X5_118 : Cond.fieldLink RX5 118 "CommandChain$Script" "second" "I" ∈ lw_all := lw_in 236 (by decide +kernel) (by decide +kernel)
theorem q_i_X5_countAlike : Cond.instanceMethod yX5_countAlike ∈ lw_all := lw_in 1081 (by decide +kernel) (by decide +kernel)
theorem q_s_X5_countAlike : Cond.selects yX5_countAlike.cls yX5_countAlike yX5_countAlike ∈ lw_all := lw_in 11 (by decide +kernel) (by decide +kernel)
theorem q_c_X5_countAlike : Cond.code yX5_countAlike cX5_countAlike 3 (some .int) ∈ lw_all := lw_in 1082 (by decide +kernel) (by decide +kernel)
theorem q_l_X5_88 : Cond.methodLink RX5 88 yX5_countAlike ∈ lw_all := lw_in 1079 (by decide +kernel) (by decide +kernel)
theorem q_l_X5_92 : Cond.methodLink RX5 92 Lib.Math.max.name ∈ lw_all := lw_in 1085 (by decide +kernel) (by decide +kernel)
theorem q_i_X5_accept : Cond.instanceMethod yX5_accept ∈ lw_all := lw_in 1067 (by decide +kernel) (by decide +kernel)
theorem q_s_X5_accept : Cond.selects yX5_accept.cls yX5_accept yX5_accept ∈ lw_all := lw_in 8 (by decide +kernel) (by decide +kernel)
theorem q_c_X5_accept : Cond.code yX5_accept cX5_accept 2 (some .boolean) ∈ lw_all := lw_in 1068 (by decide +kernel) (by decide +kernel)
theorem q_l_X5_32 : Cond.methodLink RX5 32 yX5_accept ∈ lw_all := lw_in 1065 (by decide +kernel) (by decide +kernel)
theorem q_i_X5_readWord : Cond.instanceMethod yX5_readWord ∈ lw_all := lw_in 1075 (by decide +kernel) (by decide +kernel)
theorem q_s_X5_readWord : Cond.selects yX5_readWord.cls yX5_readWord yX5_readWord ∈ lw_all := lw_in 10 (by decide +kernel) (by decide +kernel)
theorem q_c_X5_readWord : Cond.code yX5_readWord cX5_readWord 5 (some ((.object "CommandChain$Verb"))) ∈ lw_all := lw_in 1076 (by decide +kernel) (by decide +kernel)
theorem q_l_X5_36 : Cond.methodLink RX5 36 yX5_readWord ∈ lw_all := lw_in 1073 (by decide +kernel) (by decide +kernel)
theorem q_f_X5_40 : Cond.fieldLink RX5 40 "CommandChain$Script" "verb" "LCommandChain$Verb;" ∈ lw_all := lw_in 232 (by decide +kernel) (by decide +kernel)
theorem q_f_X5_44 : Cond.fieldLink RX5 44 "CommandChain$Verb" "ADD" "LCommandChain$Verb;" ∈ lw_all := lw_in 1086 (by decide +kernel) (by decide +kernel)
theorem q_f_X5_59 : Cond.fieldLink RX5 59 "CommandChain$Verb" "MOVE" "LCommandChain$Verb;" ∈ lw_all := lw_in 1108 (by decide +kernel) (by decide +kernel)
theorem q_f_X5_62 : Cond.fieldLink RX5 62 "CommandChain$Verb" "FIRE" "LCommandChain$Verb;" ∈ lw_all := lw_in 1110 (by decide +kernel) (by decide +kernel)
theorem q_f_X5_65 : Cond.fieldLink RX5 65 "CommandChain$Verb" "ORDER" "LCommandChain$Verb;" ∈ lw_all := lw_in 1112 (by decide +kernel) (by decide +kernel)
theorem q_f_X5_68 : Cond.fieldLink RX5 68 "CommandChain$Verb" "FLAG" "LCommandChain$Verb;" ∈ lw_all := lw_in 1114 (by decide +kernel) (by decide +kernel)
theorem q_f_X5_74 : Cond.fieldLink RX5 74 "CommandChain$Verb" "WAIT" "LCommandChain$Verb;" ∈ lw_all := lw_in 1120 (by decide +kernel) (by decide +kernel)
theorem q_i_X5_readNumber : Cond.instanceMethod yX5_readNumber ∈ lw_all := lw_in 1094 (by decide +kernel) (by decide +kernel)
theorem q_s_X5_readNumber : Cond.selects yX5_readNumber.cls yX5_readNumber yX5_readNumber ∈ lw_all := lw_in 13 (by decide +kernel) (by decide +kernel)
theorem q_c_X5_readNumber : Cond.code yX5_readNumber cX5_readNumber 5 (some .int) ∈ lw_all := lw_in 1095 (by decide +kernel) (by decide +kernel)
theorem q_l_X5_111 : Cond.methodLink RX5 111 yX5_readNumber ∈ lw_all := lw_in 1092 (by decide +kernel) (by decide +kernel)
theorem q_f_X5_121 : Cond.fieldLink RX5 121 "CommandChain$Script" "third" "I" ∈ lw_all := lw_in 238 (by decide +kernel) (by decide +kernel)
theorem q_i_X5_readFirst : Cond.instanceMethod yX5_readFirst ∈ lw_all := lw_in 1090 (by decide +kernel) (by decide +kernel)
theorem q_s_X5_readFirst : Cond.selects yX5_readFirst.cls yX5_readFirst yX5_readFirst ∈ lw_all := lw_in 12 (by decide +kernel) (by decide +kernel)
theorem q_c_X5_readFirst : Cond.code yX5_readFirst cX5_readFirst 2 (some .boolean) ∈ lw_all := lw_in 1091 (by decide +kernel) (by decide +kernel)
theorem q_l_X5_49 : Cond.methodLink RX5 49 yX5_readFirst ∈ lw_all := lw_in 1088 (by decide +kernel) (by decide +kernel)
theorem q_i_X5_readHours : Cond.instanceMethod yX5_readHours ∈ lw_all := lw_in 1124 (by decide +kernel) (by decide +kernel)
theorem q_s_X5_readHours : Cond.selects yX5_readHours.cls yX5_readHours yX5_readHours ∈ lw_all := lw_in 18 (by decide +kernel) (by decide +kernel)
theorem q_c_X5_readHours : Cond.code yX5_readHours cX5_readHours 1 (some .boolean) ∈ lw_all := lw_in 1125 (by decide +kernel) (by decide +kernel)
theorem q_l_X5_77 : Cond.methodLink RX5 77 yX5_readHours ∈ lw_all := lw_in 1122 (by decide +kernel) (by decide +kernel)
theorem q_i_X5_readLetters : Cond.instanceMethod yX5_readLetters ∈ lw_all := lw_in 1118 (by decide +kernel) (by decide +kernel)
theorem q_s_X5_readLetters : Cond.selects yX5_readLetters.cls yX5_readLetters yX5_readLetters ∈ lw_all := lw_in 17 (by decide +kernel) (by decide +kernel)
theorem q_c_X5_readLetters : Cond.code yX5_readLetters cX5_readLetters 1 (some .boolean) ∈ lw_all := lw_in 1119 (by decide +kernel) (by decide +kernel)
theorem q_l_X5_71 : Cond.methodLink RX5 71 yX5_readLetters ∈ lw_all := lw_in 1116 (by decide +kernel) (by decide +kernel)
theorem q_i_X5_readThird : Cond.instanceMethod yX5_readThird ∈ lw_all := lw_in 1106 (by decide +kernel) (by decide +kernel)
theorem q_s_X5_readThird : Cond.selects yX5_readThird.cls yX5_readThird yX5_readThird ∈ lw_all := lw_in 16 (by decide +kernel) (by decide +kernel)
theorem q_c_X5_readThird : Cond.code yX5_readThird cX5_readThird 2 (some .boolean) ∈ lw_all := lw_in 1107 (by decide +kernel) (by decide +kernel)
theorem q_l_X5_56 : Cond.methodLink RX5 56 yX5_readThird ∈ lw_all := lw_in 1104 (by decide +kernel) (by decide +kernel)
theorem q_i_X5_readSecond : Cond.instanceMethod yX5_readSecond ∈ lw_all := lw_in 1102 (by decide +kernel) (by decide +kernel)
theorem q_s_X5_readSecond : Cond.selects yX5_readSecond.cls yX5_readSecond yX5_readSecond ∈ lw_all := lw_in 15 (by decide +kernel) (by decide +kernel)
theorem q_c_X5_readSecond : Cond.code yX5_readSecond cX5_readSecond 2 (some .boolean) ∈ lw_all := lw_in 1103 (by decide +kernel) (by decide +kernel)
theorem q_l_X5_53 : Cond.methodLink RX5 53 yX5_readSecond ∈ lw_all := lw_in 1100 (by decide +kernel) (by decide +kernel)
theorem q_i_X5_readNext : Cond.instanceMethod yX5_readNext ∈ lw_all := lw_in 1062 (by decide +kernel) (by decide +kernel)
theorem q_s_X5_readNext : Cond.selects yX5_readNext.cls yX5_readNext yX5_readNext ∈ lw_all := lw_in 1063 (by decide +kernel) (by decide +kernel)
theorem q_c_X5_readNext : Cond.code yX5_readNext cX5_readNext 1 (some .boolean) ∈ lw_all := lw_in 1064 (by decide +kernel) (by decide +kernel)
theorem q_l_X5_25 : Cond.methodLink RX5 25 yX5_readNext ∈ lw_all := lw_in 1061 (by decide +kernel) (by decide +kernel)
theorem q_ef_X5_80 {aa : gx_AA} : ∀ (A : Nat → Prop) (U : State) (H : Heap), gx_E0 aa A U H → va_Nw (Cond.fieldLinkNest RX5 80 "CommandChain$Verb" "ALL" "[LCommandChain$Verb;" "CommandChain") U := fun A U H h => h.1 _ (gx_nest_in 1077 (by decide +kernel) (by decide +kernel))
/-! the enum by numbers: 0 is null, k + 1 the k-th constant -/
def gx_vo (aa : gx_AA) (n : Nat) : Option Nat := match n with
  | 0 => none
  | k + 1 => some (aa.2.2.1 k)
def gx_ve (aa : gx_AA) (v : Int32) : Value := va_rf (gx_vo aa v.toNatClampNeg)
theorem gx_in_c {i : Int32} {N : Nat} (h : gx_in i N) (hN : N < 2 ^ 31) : ∃ j : Nat, j < N ∧ i = nI j := vp_in_of h hN
theorem gx_ve_s {aa : gx_AA} {i : Int32} (h : gx_in i 6) : gx_ve aa (i + 1) = .ref (aa.2.2.1 i.toNatClampNeg) := by
  obtain ⟨j, hj, rfl⟩ := gx_in_c h (by decide)
  rw [nI_1, nI_clamp (by omega)]
  show va_rf (gx_vo aa (nI (j + 1)).toNatClampNeg) = _
  rw [nI_clamp (by omega)]
  rfl
theorem gx_ve_or (aa : gx_AA) (v : Int32) : gx_ve aa v = .null ∨ ∃ a, gx_ve aa v = .ref a := va_rf_or _
theorem gx_ve_n (aa : gx_AA) (v : Int32) {C : String} : narrow (.object C) (gx_ve aa v) = gx_ve aa v := by
  rcases gx_ve_or aa v with h | ⟨a, h⟩ <;> rw [h] <;> rfl
theorem gx_ve_f (aa : gx_AA) (v : Int32) {C : String} : fits (.object C) (gx_ve aa v) = true := by
  rcases gx_ve_or aa v with h | ⟨a, h⟩ <;> rw [h] <;> rfl
section SRows
variable {D : va_G} {t : Nat → ClassId} {aa : gx_AA} {l : Launch} {R : Room} {cc : ByteArray} {own : String} {nL : Nat} {J : gx_J} {k n : Nat} {w : va_W} {pc : Nat} {L : List (Nat × Value)} {st : List Value}
theorem j_acmp_ne (g : gx_G D t (gx_E0 aa) l R cc own nL J) {x y : Int32} (hx7 : gx_in x 7) (hy7 : gx_in y 7) {off : Int} {tgt : Nat} (hd : decode cc pc = .ok (.if_acmp .ne off, 3)) (ht : (pc : Int) + off = (tgt : Int)) (kt : ¬ x = y → J k n w tgt L st) (kf : x = y → J k n w (pc + 3) L st) : J k n w pc L (gx_ve aa y :: gx_ve aa x :: st) := by
  obtain ⟨p, e, s, m, args, below, meth, c, A, Q, rfl, hx, hb, hml, hown, hts, hK, hA, hE⟩ := g
  intro H locs ls hP hD hS hl
  have hinj := hE.2.2.2.2.2.2.1
  obtain ⟨i, hi, rfl⟩ := gx_in_c hx7 (by decide)
  obtain ⟨j, hj, rfl⟩ := gx_in_c hy7 (by decide)
  have hiff : gx_vo aa (nI i).toNatClampNeg = gx_vo aa (nI j).toNatClampNeg → nI i = nI j := by
    rw [nI_clamp (by omega), nI_clamp (by omega)]
    intro h
    match i, j, hi, hj, h with
    | 0, 0, _, _, _ => rfl
    | 0, j + 1, _, _, h => cases h
    | i + 1, 0, _, _, h => cases h
    | i + 1, j + 1, hi, hj, h =>
      have := hinj i j (by omega) (by omega) (Option.some.inj h)
      rw [this]
  exact lv_acmp_ne hx hb hd ht (fun q => kt (fun q1 => q (by rw [q1])) H locs ls hP hD hS hl) (fun q => kf (hiff q) H locs ls hP hD hS hl)
theorem j_null (g : gx_G D t (gx_E0 aa) l R cc own nL J) (hd : decode cc pc = .ok (.aconst_null, 1)) (kk : J k n w (pc + 1) L (gx_ve aa 0 :: st)) : J k n w pc L st := by
  obtain ⟨p, e, s, m, args, below, meth, c, A, Q, rfl, hx, hb, hml, hown, hts, hK, hA, hE⟩ := g
  intro H locs ls hP hD hS hl
  exact lv_null hx hb hd (kk H locs ls hP hD hS hl)
theorem j_allq (g : gx_G D t (gx_E0 aa) l R cc own nL J) {i : Int32} (hin : gx_in i 6) (hd : decode cc pc = .ok (.aaload, 1)) (kk : J k n w (pc + 1) L (gx_ve aa (i + 1) :: st)) : J k n w pc L (.int i :: .ref aa.2.2.2.2.1 :: st) := by
  rw [gx_ve_s hin] at kk
  exact j_tq g (fun A U H h => h.2.2.2.2.2.2.2.1) hin rfl hd kk
theorem j_word (g : gx_G D t (gx_E0 aa) l R cc own nL J) {i : Int32} (hin : gx_in i 6) {index : Nat} (hlink : Cond.fieldLink own index "CommandChain$Verb" "word" "Ljava/lang/String;" ∈ lw_all) (hd : decode cc pc = .ok (.getfield index, 3)) (kk : J k n w (pc + 3) L (.ref (aa.1 (gx_wd i.toNatClampNeg)) :: st)) : J k n w pc L (gx_ve aa (i + 1) :: st) := by
  rw [gx_ve_s hin]
  have hi := (gx_in_lt hin (by decide)).2.2
  exact j_getO g (fun A U H h => (h.2.2.2.2.1 _ hi).2.2) hlink rfl hd kk
theorem e_verb {i : Nat} (hi : i < 6) : ∀ (A : Nat → Prop) (U : State) (H : Heap), gx_E0 aa A U H → va_Z "CommandChain$Verb" (gx_vn.getD i "") "LCommandChain$Verb;" (.ref (aa.2.2.1 i)) A U H := fun A U H h => (h.2.2.2.2.1 i hi).1
theorem e_all : ∀ (A : Nat → Prop) (U : State) (H : Heap), gx_E0 aa A U H → va_Z "CommandChain$Verb" "ALL" "[LCommandChain$Verb;" (.ref aa.2.2.2.2.1) A U H := fun A U H h => h.2.2.2.2.2.2.1
theorem e_allT : ∀ (A : Nat → Prop) (U : State) (H : Heap), gx_E0 aa A U H → va_T (.object "CommandChain$Verb") aa.2.2.2.2.1 6 (fun j => .ref (aa.2.2.1 j)) A U H := fun A U H h => h.2.2.2.2.2.2.2.1
theorem j_getsN {E : gx_E} (g : gx_G D t E l R cc own nL J) {C ref n1 d1 host : String} {v : Value} {index : Nat} (hZ : ∀ (A : Nat → Prop) (U : State) (H : Heap), E A U H → va_Z C n1 d1 v A U H) (hN : ∀ (A : Nat → Prop) (U : State) (H : Heap), E A U H → va_Nw (.fieldLinkNest own index ref n1 d1 host) U) (hr : C = ref) (hd : decode cc pc = .ok (.getstatic index, 3)) (kk : J k n w (pc + 3) L (v :: st)) : J k n w pc L st := by
  obtain ⟨p, e, s, m, args, below, meth, c, A, Q, rfl, hx, hb, hml, hown, hts, hK, hA, hE⟩ := g
  intro H locs ls hP hD hS hl
  exact va_getsN hx hb (hZ _ _ _ hE.2) hS hown (va_Nw.use rfl (hN _ _ _ hE.2)) (fun _ h9 => by rw [← hr]; exact h9) hd (kk H locs ls hP hD hS hl)
end SRows
theorem gx_intro_a {D : va_G} {t : Nat → ClassId} {E : gx_E} {l : Launch} {y : MethodName} {b : ByteArray} {nL fr lo : Nat} {C : String} {av : List Value} {w w' : va_W} {v : Value} (hy : plainName y.cls = true) (hlen : (lg_sl av).length ≤ nL)
    (body : ∀ J : gx_J, gx_G D t E l ({ frames := fr, cells := 0, slots := 0, locals := lo }) b y.cls nL J → (∀ (pc : Nat) (L : List (Nat × Value)), decode b pc = .ok (.areturn, 1) → (v = .null ∨ ∃ a, v = .ref a) → J 0 0 w' pc L [v]) → J 0 0 w 0 (lv_args 0 av) []) :
    gx_C D t E l y b nL (some (.object C)) fr lo av w w' (some v) := by
  intro sz
  refine Met.ofW (cc := b) (maxL := nL) (ret := some (.object C)) hy rfl ?_
  intro p e s m args below meth c s₁ B hml hv
  obtain ⟨rfl, hsz, hP, hK, hD0, hEk, hE0⟩ := hv
  have hts := atoms_spec (ws := gx_w y b nL (some (.object C))) B.pre
  subst hsz
  have hD := hD0.self (sz := s.heap.size)
  generalize hAe : va_A w s.heap.size = A at hD hE0 ⊢
  have hA : ∀ q : Nat, s.heap.size ≤ q → A q := fun q h => by rw [← hAe]; exact Or.inr h
  have hl := lv_entry av (n := nL) hlen
  rw [lg_entry_eq]
  refine body (gx_M D p l e _ s m av.toArray below meth c A nL (MQ below (gx_QC D w w' (some v) s.heap.size) av.toArray s 0 0 A)) ⟨p, e, s, m, _, below, meth, c, A, _, rfl, B.exec, B.bytes, hml, findClass_of_methodNamed B.named, fun w hw => hts w (List.mem_cons_of_mem _ hw), hK, hA, hEk, hE0⟩ (fun pc L hd hv => ?_) s.heap [] _ hP hD va_S.rf hl
  intro H locs ls hP1 hD1 hS1 hl1
  exact W.aret B.exec B.bytes B.returns (Or.inl ⟨C, rfl⟩) hv (fun u hu hW => ⟨⟨rfl, by rw [hu]; exact hP1, by rw [hAe]; exact hD1⟩, by rw [hAe]; exact hS1.F hu⟩) hS1.2.2 hd B.notSynchronized
/-- the script's cells: its own numbers (place 2: the verb by number), its text -/
def sC (aa : gx_AA) (ad : Nat → Nat) (t : Nat → ClassId) (σ : OS × OS) : va_W := (ad 0, .inr (7, [.ref (ad 1), .int (os_f σ.1 1), gx_ve aa (os_f σ.1 2), .int (os_f σ.1 3), .int (os_f σ.1 4), .int (os_f σ.1 5)])) :: xC (fun p => ad (p + 1)) t σ.2
def fX5_rewind (σ : (OS × OS)) : Option (OS × OS) := (some (os_sf σ.1 1 (0 : Int32), σ.2))
def fX5_readBetween (σ : (OS × OS)) (p1 : Int32) (p2 : Int32) : Option (Int32 × (OS × OS)) := (if (os_f σ.2 1) ≤ (os_f σ.1 1) then (some ((-1 : Int32), σ)) else (gx_chk (gx_in (os_f σ.1 1) 60) (if (os_a σ.2 0 (os_f σ.1 1).toNatClampNeg) < p1 then (some ((-1 : Int32), σ)) else (gx_chk (gx_in (os_f σ.1 1) 60) (if (os_a σ.2 0 (os_f σ.1 1).toNatClampNeg) ≤ p2 then (gx_chk (gx_in (os_f σ.1 1) 60) (some (os_a σ.2 0 (os_f σ.1 1).toNatClampNeg, (os_sf σ.1 1 ((os_f σ.1 1) + (1 : Int32)), σ.2)))) else (some ((-1 : Int32), σ)))))))
def fX5_stands (σ : (OS × OS)) (p1 : Int32) (p2 : Int32) : Option Int32 := (if (os_f σ.2 1) ≤ p1 then (some (0 : Int32)) else (gx_chk (gx_in p1 60) (if (os_a σ.2 0 p1.toNatClampNeg) = p2 then (some (1 : Int32)) else (some (0 : Int32)))))
def fX5_countAlike_2 (σ : (OS × OS)) : Nat → Nat → Int32 → Option Int32
  | 0, _, _ => none
  | n + 1, v1, v2 => (gx_chk (v1 < 8) (if (nI (gx_len v1)) ≤ v2 then (some v2) else (gx_chk (v1 < 8 ∧ gx_in v2 (gx_len v1)) (gx_b (fX5_stands σ ((os_f σ.1 1) + v2) (gx_chr v1 v2.toNatClampNeg)) (fun r22 => (if r22 = 0 then (some v2) else (fX5_countAlike_2 σ n v1 (v2 + 1))))))))
theorem fX5_countAlike_2_s (σ : (OS × OS)) (n : Nat) (v1 : Nat) (v2 : Int32) : fX5_countAlike_2 σ (n + 1) v1 v2 = (gx_chk (v1 < 8) (if (nI (gx_len v1)) ≤ v2 then (some v2) else (gx_chk (v1 < 8 ∧ gx_in v2 (gx_len v1)) (gx_b (fX5_stands σ ((os_f σ.1 1) + v2) (gx_chr v1 v2.toNatClampNeg)) (fun r22 => (if r22 = 0 then (some v2) else (fX5_countAlike_2 σ n v1 (v2 + 1)))))))) := rfl
def fX5_countAlike (σ : (OS × OS)) (p1 : Nat) : Option Int32 := (fX5_countAlike_2 σ 2000 p1 (0 : Int32))
def fX5_readLetters (σ : (OS × OS)) : Option (Int32 × (OS × OS)) := (gx_b (fX5_readBetween σ (97 : Int32) (122 : Int32)) (fun r6 => (if (os_f (os_sf r6.2.1 3 r6.1) 3) = (-1 : Int32) then (some ((0 : Int32), (os_sf r6.2.1 3 r6.1, r6.2.2))) else (gx_b (fX5_readBetween (os_sf r6.2.1 3 r6.1, r6.2.2) (97 : Int32) (122 : Int32)) (fun r28 => (if (os_f (os_sf r28.2.1 4 r28.1) 4) = (-1 : Int32) then (some ((0 : Int32), (os_sf r28.2.1 4 r28.1, r28.2.2))) else (some ((1 : Int32), (os_sf r28.2.1 4 r28.1, r28.2.2)))))))))
def fX5_accept (σ : (OS × OS)) (p1 : Int32) : Option (Int32 × (OS × OS)) := (gx_b (fX5_stands σ (os_f σ.1 1) p1) (fun r6 => (if r6 = 0 then (some ((0 : Int32), σ)) else (some ((1 : Int32), (os_sf σ.1 1 ((os_f σ.1 1) + (1 : Int32)), σ.2))))))
def fX5_readWord_4 : Nat → (OS × OS) → Int32 → Int32 → Option (Int32 × (OS × OS))
  | 0, _, _, _ => none
  | n + 1, σ, v1, v2 => (if (6 : Int32) ≤ v2 then (some ((0 : Int32), (os_sf σ.1 1 ((os_f σ.1 1) + v1), σ.2))) else (gx_chk (gx_in v2 6) (gx_b (fX5_countAlike σ (gx_wd v2.toNatClampNeg)) (fun r23 => (gx_chk ((gx_wd v2.toNatClampNeg) < 8) (if r23 = (nI (gx_len (gx_wd v2.toNatClampNeg))) then (gx_chk (gx_in v2 6) (some (v2 + 1, (os_sf σ.1 1 ((os_f σ.1 1) + r23), σ.2)))) else (fX5_readWord_4 n σ (if v1 < r23 then r23 else v1) (v2 + 1))))))))
theorem fX5_readWord_4_s (n : Nat) (σ : (OS × OS)) (v1 : Int32) (v2 : Int32) : fX5_readWord_4 (n + 1) σ v1 v2 = (if (6 : Int32) ≤ v2 then (some ((0 : Int32), (os_sf σ.1 1 ((os_f σ.1 1) + v1), σ.2))) else (gx_chk (gx_in v2 6) (gx_b (fX5_countAlike σ (gx_wd v2.toNatClampNeg)) (fun r23 => (gx_chk ((gx_wd v2.toNatClampNeg) < 8) (if r23 = (nI (gx_len (gx_wd v2.toNatClampNeg))) then (gx_chk (gx_in v2 6) (some (v2 + 1, (os_sf σ.1 1 ((os_f σ.1 1) + r23), σ.2)))) else (fX5_readWord_4 n σ (if v1 < r23 then r23 else v1) (v2 + 1)))))))) := rfl
def fX5_readWord (σ : (OS × OS)) : Option (Int32 × (OS × OS)) := (fX5_readWord_4 2000 σ (0 : Int32) (0 : Int32))
def fX5_readNumber_15 : Nat → (OS × OS) → Int32 → Int32 → Int32 → Option (Int32 × (OS × OS))
  | 0, _, _, _, _ => none
  | n + 1, σ, v1, v2, v3 => (if v1 ≤ v3 then (some (v2, σ)) else (gx_b (fX5_readBetween σ (48 : Int32) (57 : Int32)) (fun r25 => (if r25.1 = (-1 : Int32) then (if v3 ≤ 0 then (some ((-1 : Int32), r25.2)) else (some (v2, r25.2))) else (fX5_readNumber_15 n r25.2 v1 (((v2 * (10 : Int32)) + r25.1) - (48 : Int32)) (v3 + 1))))))
theorem fX5_readNumber_15_s (n : Nat) (σ : (OS × OS)) (v1 : Int32) (v2 : Int32) (v3 : Int32) : fX5_readNumber_15 (n + 1) σ v1 v2 v3 = (if v1 ≤ v3 then (some (v2, σ)) else (gx_b (fX5_readBetween σ (48 : Int32) (57 : Int32)) (fun r25 => (if r25.1 = (-1 : Int32) then (if v3 ≤ 0 then (some ((-1 : Int32), r25.2)) else (some (v2, r25.2))) else (fX5_readNumber_15 n r25.2 v1 (((v2 * (10 : Int32)) + r25.1) - (48 : Int32)) (v3 + 1)))))) := rfl
def fX5_readNumber (σ : (OS × OS)) (p1 : Int32) : Option (Int32 × (OS × OS)) := (gx_b (fX5_accept σ (32 : Int32)) (fun r3 => (if r3.1 = 0 then (some ((-1 : Int32), r3.2)) else (fX5_readNumber_15 2000 r3.2 p1 (0 : Int32) (0 : Int32)))))
def fX5_readFirst (σ : (OS × OS)) (p1 : Int32) : Option (Int32 × (OS × OS)) := (gx_b (fX5_readNumber σ p1) (fun r3 => (if (os_f (os_sf r3.2.1 3 r3.1) 3) = (-1 : Int32) then (some ((0 : Int32), (os_sf r3.2.1 3 r3.1, r3.2.2))) else (some ((1 : Int32), (os_sf r3.2.1 3 r3.1, r3.2.2))))))
def fX5_readSecond (σ : (OS × OS)) (p1 : Int32) : Option (Int32 × (OS × OS)) := (gx_b (fX5_readNumber σ p1) (fun r3 => (if (os_f (os_sf r3.2.1 4 r3.1) 4) = (-1 : Int32) then (some ((0 : Int32), (os_sf r3.2.1 4 r3.1, r3.2.2))) else (some ((1 : Int32), (os_sf r3.2.1 4 r3.1, r3.2.2))))))
def fX5_readThird (σ : (OS × OS)) (p1 : Int32) : Option (Int32 × (OS × OS)) := (gx_b (fX5_readNumber σ p1) (fun r3 => (if (os_f (os_sf r3.2.1 5 r3.1) 5) = (-1 : Int32) then (some ((0 : Int32), (os_sf r3.2.1 5 r3.1, r3.2.2))) else (some ((1 : Int32), (os_sf r3.2.1 5 r3.1, r3.2.2))))))
def fX5_readHours (σ : (OS × OS)) : Option (Int32 × (OS × OS)) := (gx_b (fX5_stands σ (os_f σ.1 1) (32 : Int32)) (fun r7 => (if r7 = 0 then (some ((1 : Int32), (os_sf σ.1 3 (1 : Int32), σ.2))) else (gx_b (fX5_readFirst σ (2 : Int32)) (fun r15 => (gx_chk (r15.1 = 0 ∨ r15.1 = 1) (some (r15.1, r15.2))))))))
def fX5_readNext_18 (σ : (OS × OS)) : Option (Int32 × (OS × OS)) := (gx_b (fX5_readWord σ) (fun r20 => (gx_chk (gx_in (os_f (os_sf r20.2.1 2 r20.1) 2) 7) (if (os_f (os_sf r20.2.1 2 r20.1) 2) = (1 : Int32) then (gx_b (fX5_readFirst (os_sf r20.2.1 2 r20.1, r20.2.2) (2 : Int32)) (fun r38 => (if r38.1 = 0 then (some ((0 : Int32), r38.2)) else (gx_b (fX5_readSecond r38.2 (1 : Int32)) (fun r46 => (if r46.1 = 0 then (some ((0 : Int32), r46.2)) else (gx_b (fX5_readThird r46.2 (3 : Int32)) (fun r54 => (if r54.1 = 0 then (some ((0 : Int32), r54.2)) else (some ((1 : Int32), r54.2))))))))))) else (gx_chk (gx_in (os_f (os_sf r20.2.1 2 r20.1) 2) 7) (if (os_f (os_sf r20.2.1 2 r20.1) 2) = (2 : Int32) then (gx_b (fX5_readFirst (os_sf r20.2.1 2 r20.1, r20.2.2) (2 : Int32)) (fun r78 => (if r78.1 = 0 then (some ((0 : Int32), r78.2)) else (gx_b (fX5_readSecond r78.2 (2 : Int32)) (fun r86 => (if r86.1 = 0 then (some ((0 : Int32), r86.2)) else (some ((1 : Int32), r86.2)))))))) else (gx_chk (gx_in (os_f (os_sf r20.2.1 2 r20.1) 2) 7) (if (os_f (os_sf r20.2.1 2 r20.1) 2) = (3 : Int32) then (gx_b (fX5_readFirst (os_sf r20.2.1 2 r20.1, r20.2.2) (2 : Int32)) (fun r110 => (gx_chk (r110.1 = 0 ∨ r110.1 = 1) (some (r110.1, r110.2))))) else (gx_chk (gx_in (os_f (os_sf r20.2.1 2 r20.1) 2) 7) (if (os_f (os_sf r20.2.1 2 r20.1) 2) = (4 : Int32) then (gx_b (fX5_readFirst (os_sf r20.2.1 2 r20.1, r20.2.2) (2 : Int32)) (fun r126 => (if r126.1 = 0 then (some ((0 : Int32), r126.2)) else (gx_b (fX5_readSecond r126.2 (2 : Int32)) (fun r134 => (if r134.1 = 0 then (some ((0 : Int32), r134.2)) else (gx_b (fX5_readThird r134.2 (3 : Int32)) (fun r142 => (if r142.1 = 0 then (some ((0 : Int32), r142.2)) else (some ((1 : Int32), r142.2))))))))))) else (gx_chk (gx_in (os_f (os_sf r20.2.1 2 r20.1) 2) 7) (if (os_f (os_sf r20.2.1 2 r20.1) 2) = (5 : Int32) then (gx_b (fX5_accept (os_sf r20.2.1 2 r20.1, r20.2.2) (32 : Int32)) (fun r167 => (if r167.1 = 0 then (some ((0 : Int32), r167.2)) else (gx_b (fX5_readLetters r167.2) (fun r174 => (if r174.1 = 0 then (some ((0 : Int32), r174.2)) else (gx_b (fX5_readThird r174.2 (2 : Int32)) (fun r182 => (if r182.1 = 0 then (some ((0 : Int32), r182.2)) else (some ((1 : Int32), r182.2))))))))))) else (gx_chk (gx_in (os_f (os_sf r20.2.1 2 r20.1) 2) 7) (if (os_f (os_sf r20.2.1 2 r20.1) 2) = (6 : Int32) then (gx_b (fX5_readHours (os_sf r20.2.1 2 r20.1, r20.2.2)) (fun r205 => (if r205.1 = 0 then (some ((0 : Int32), r205.2)) else (some ((1 : Int32), r205.2))))) else (some ((0 : Int32), (os_sf r20.2.1 2 r20.1, r20.2.2)))))))))))))))))
def fX5_readNext (σ : (OS × OS)) : Option (Int32 × (OS × OS)) := (if (os_f σ.1 1) ≤ 0 then (fX5_readNext_18 σ) else (gx_b (fX5_accept σ (59 : Int32)) (fun r10 => (if r10.1 = 0 then (some ((0 : Int32), r10.2)) else (fX5_readNext_18 r10.2)))))
def fX5_readAll_6 : Nat → (OS × OS) → Int32 → Option (Int32 × (OS × OS))
  | 0, _, _ => none
  | n + 1, σ, v1 => (if (60 : Int32) < v1 then (some ((-1 : Int32), σ)) else (gx_b (fX5_readNext σ) (fun r13 => (if r13.1 = 0 then (some ((-1 : Int32), r13.2)) else (if (os_f r13.2.1 1) = (os_f r13.2.2 1) then (some (v1, r13.2)) else (fX5_readAll_6 n r13.2 (v1 + 1)))))))
theorem fX5_readAll_6_s (n : Nat) (σ : (OS × OS)) (v1 : Int32) : fX5_readAll_6 (n + 1) σ v1 = (if (60 : Int32) < v1 then (some ((-1 : Int32), σ)) else (gx_b (fX5_readNext σ) (fun r13 => (if r13.1 = 0 then (some ((-1 : Int32), r13.2)) else (if (os_f r13.2.1 1) = (os_f r13.2.2 1) then (some (v1, r13.2)) else (fX5_readAll_6 n r13.2 (v1 + 1))))))) := rfl
def fX5_readAll (σ : (OS × OS)) : Option (Int32 × (OS × OS)) := (gx_b (fX5_rewind σ) (fun r1 => (fX5_readAll_6 2000 r1 (1 : Int32))))
