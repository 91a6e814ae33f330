theorem dJ0_length_8abf5_0 : decode cJ0_length_8abf5 0 = .ok (.aload_n 0, 1) := by decide +kernel
theorem dJ0_length_8abf5_1 : decode cJ0_length_8abf5 1 = .ok (.getfield 9, 3) := by decide +kernel
theorem dJ0_length_8abf5_4 : decode cJ0_length_8abf5 4 = .ok (.arraylength, 1) := by decide +kernel
theorem dJ0_length_8abf5_5 : decode cJ0_length_8abf5 5 = .ok (.aload_n 0, 1) := by decide +kernel
theorem dJ0_length_8abf5_6 : decode cJ0_length_8abf5 6 = .ok (.invokevirtual 335, 3) := by decide +kernel
theorem dJ0_length_8abf5_9 : decode cJ0_length_8abf5 9 = .ok (.ishr, 1) := by decide +kernel
theorem dJ0_length_8abf5_10 : decode cJ0_length_8abf5 10 = .ok (.ireturn, 1) := by decide +kernel
theorem dJ0_charAt_5068e_0 : decode cJ0_charAt_5068e 0 = .ok (.aload_n 0, 1) := by decide +kernel
theorem dJ0_charAt_5068e_1 : decode cJ0_charAt_5068e 1 = .ok (.invokevirtual 492, 3) := by decide +kernel
theorem dJ0_charAt_5068e_4 : decode cJ0_charAt_5068e 4 = .ok (.ifCond .eq 12, 3) := by decide +kernel
theorem dJ0_charAt_5068e_7 : decode cJ0_charAt_5068e 7 = .ok (.aload_n 0, 1) := by decide +kernel
theorem dJ0_charAt_5068e_8 : decode cJ0_charAt_5068e 8 = .ok (.getfield 9, 3) := by decide +kernel
theorem dJ0_charAt_5068e_11 : decode cJ0_charAt_5068e 11 = .ok (.iload_n 1, 1) := by decide +kernel
theorem dJ0_charAt_5068e_12 : decode cJ0_charAt_5068e 12 = .ok (.invokestatic 495, 3) := by decide +kernel
theorem dJ0_charAt_5068e_15 : decode cJ0_charAt_5068e 15 = .ok (.ireturn, 1) := by decide +kernel
theorem dJ0_charAt_5068e_16 : decode cJ0_charAt_5068e 16 = .ok (.aload_n 0, 1) := by decide +kernel
theorem dJ0_charAt_5068e_17 : decode cJ0_charAt_5068e 17 = .ok (.getfield 9, 3) := by decide +kernel
theorem dJ0_charAt_5068e_20 : decode cJ0_charAt_5068e 20 = .ok (.iload_n 1, 1) := by decide +kernel
theorem dJ0_charAt_5068e_21 : decode cJ0_charAt_5068e 21 = .ok (.invokestatic 498, 3) := by decide +kernel
theorem dJ0_charAt_5068e_24 : decode cJ0_charAt_5068e 24 = .ok (.ireturn, 1) := by decide +kernel
theorem dJ0_coder_7d493_0 : decode cJ0_coder_7d493 0 = .ok (.getstatic 38, 3) := by decide +kernel
theorem dJ0_coder_7d493_3 : decode cJ0_coder_7d493 3 = .ok (.ifCond .eq 10, 3) := by decide +kernel
theorem dJ0_coder_7d493_6 : decode cJ0_coder_7d493 6 = .ok (.aload_n 0, 1) := by decide +kernel
theorem dJ0_coder_7d493_7 : decode cJ0_coder_7d493 7 = .ok (.getfield 15, 3) := by decide +kernel
theorem dJ0_coder_7d493_10 : decode cJ0_coder_7d493 10 = .ok (.goto 4, 3) := by decide +kernel
theorem dJ0_coder_7d493_13 : decode cJ0_coder_7d493 13 = .ok (.iconst 1, 1) := by decide +kernel
theorem dJ0_coder_7d493_14 : decode cJ0_coder_7d493 14 = .ok (.ireturn, 1) := by decide +kernel
theorem dJ0_isLatin1_aae02_0 : decode cJ0_isLatin1_aae02 0 = .ok (.getstatic 38, 3) := by decide +kernel
theorem dJ0_isLatin1_aae02_3 : decode cJ0_isLatin1_aae02 3 = .ok (.ifCond .eq 14, 3) := by decide +kernel
theorem dJ0_isLatin1_aae02_6 : decode cJ0_isLatin1_aae02 6 = .ok (.aload_n 0, 1) := by decide +kernel
theorem dJ0_isLatin1_aae02_7 : decode cJ0_isLatin1_aae02 7 = .ok (.getfield 15, 3) := by decide +kernel
theorem dJ0_isLatin1_aae02_10 : decode cJ0_isLatin1_aae02 10 = .ok (.ifCond .ne 7, 3) := by decide +kernel
theorem dJ0_isLatin1_aae02_13 : decode cJ0_isLatin1_aae02 13 = .ok (.iconst 1, 1) := by decide +kernel
theorem dJ0_isLatin1_aae02_14 : decode cJ0_isLatin1_aae02 14 = .ok (.goto 4, 3) := by decide +kernel
theorem dJ0_isLatin1_aae02_17 : decode cJ0_isLatin1_aae02 17 = .ok (.iconst 0, 1) := by decide +kernel
theorem dJ0_isLatin1_aae02_18 : decode cJ0_isLatin1_aae02 18 = .ok (.ireturn, 1) := by decide +kernel
theorem dJ0_checkIndex_df160_0 : decode cJ0_checkIndex_df160 0 = .ok (.iload_n 0, 1) := by decide +kernel
theorem dJ0_checkIndex_df160_1 : decode cJ0_checkIndex_df160 1 = .ok (.iload_n 1, 1) := by decide +kernel
theorem dJ0_checkIndex_df160_2 : decode cJ0_checkIndex_df160 2 = .ok (.getstatic 1053, 3) := by decide +kernel
theorem dJ0_checkIndex_df160_5 : decode cJ0_checkIndex_df160 5 = .ok (.invokestatic 1059, 3) := by decide +kernel
theorem dJ0_checkIndex_df160_8 : decode cJ0_checkIndex_df160 8 = .ok (.pop, 1) := by decide +kernel
theorem dJ0_checkIndex_df160_9 : decode cJ0_checkIndex_df160 9 = .ok (.return_, 1) := by decide +kernel
theorem dJ1_charAt_3b067_0 : decode cJ1_charAt_3b067 0 = .ok (.iload_n 1, 1) := by decide +kernel
theorem dJ1_charAt_3b067_1 : decode cJ1_charAt_3b067 1 = .ok (.aload_n 0, 1) := by decide +kernel
theorem dJ1_charAt_3b067_2 : decode cJ1_charAt_3b067 2 = .ok (.arraylength, 1) := by decide +kernel
theorem dJ1_charAt_3b067_3 : decode cJ1_charAt_3b067 3 = .ok (.invokestatic 9, 3) := by decide +kernel
theorem dJ1_charAt_3b067_6 : decode cJ1_charAt_3b067 6 = .ok (.aload_n 0, 1) := by decide +kernel
theorem dJ1_charAt_3b067_7 : decode cJ1_charAt_3b067 7 = .ok (.iload_n 1, 1) := by decide +kernel
theorem dJ1_charAt_3b067_8 : decode cJ1_charAt_3b067 8 = .ok (.baload, 1) := by decide +kernel
theorem dJ1_charAt_3b067_9 : decode cJ1_charAt_3b067 9 = .ok (.sipush 255, 3) := by decide +kernel
theorem dJ1_charAt_3b067_12 : decode cJ1_charAt_3b067 12 = .ok (.iand, 1) := by decide +kernel
theorem dJ1_charAt_3b067_13 : decode cJ1_charAt_3b067 13 = .ok (.i2c, 1) := by decide +kernel
theorem dJ1_charAt_3b067_14 : decode cJ1_charAt_3b067 14 = .ok (.ireturn, 1) := by decide +kernel
theorem dJ3_checkIndex_8e157_0 : decode cJ3_checkIndex_8e157 0 = .ok (.iload_n 0, 1) := by decide +kernel
theorem dJ3_checkIndex_8e157_1 : decode cJ3_checkIndex_8e157 1 = .ok (.ifCond .lt 8, 3) := by decide +kernel
theorem dJ3_checkIndex_8e157_4 : decode cJ3_checkIndex_8e157 4 = .ok (.iload_n 0, 1) := by decide +kernel
theorem dJ3_checkIndex_8e157_5 : decode cJ3_checkIndex_8e157 5 = .ok (.iload_n 1, 1) := by decide +kernel
theorem dJ3_checkIndex_8e157_6 : decode cJ3_checkIndex_8e157 6 = .ok (.if_icmp .lt 10, 3) := by decide +kernel
theorem dJ3_checkIndex_8e157_9 : decode cJ3_checkIndex_8e157 9 = .ok (.aload_n 2, 1) := by decide +kernel
theorem dJ3_checkIndex_8e157_10 : decode cJ3_checkIndex_8e157 10 = .ok (.iload_n 0, 1) := by decide +kernel
theorem dJ3_checkIndex_8e157_11 : decode cJ3_checkIndex_8e157 11 = .ok (.iload_n 1, 1) := by decide +kernel
theorem dJ3_checkIndex_8e157_12 : decode cJ3_checkIndex_8e157 12 = .ok (.invokestatic 95, 3) := by decide +kernel
theorem dJ3_checkIndex_8e157_15 : decode cJ3_checkIndex_8e157 15 = .ok (.athrow, 1) := by decide +kernel
theorem dJ3_checkIndex_8e157_16 : decode cJ3_checkIndex_8e157 16 = .ok (.iload_n 0, 1) := by decide +kernel
theorem dJ3_checkIndex_8e157_17 : decode cJ3_checkIndex_8e157 17 = .ok (.ireturn, 1) := by decide +kernel
theorem q_f_J0_1053 : Cond.fieldLink RJ0 1053 "jdk/internal/util/Preconditions" "SIOOBE_FORMATTER" "Ljava/util/function/BiFunction;" ∈ lw_all := lw_in 842 (by decide +kernel) (by decide +kernel)
theorem q_f_J0_15 : Cond.fieldLink RJ0 15 "java/lang/String" "coder" "B" ∈ lw_all := lw_in 1006 (by decide +kernel) (by decide +kernel)
theorem q_f_J0_38 : Cond.fieldLink RJ0 38 "java/lang/String" "COMPACT_STRINGS" "Z" ∈ lw_all := lw_in 864 (by decide +kernel) (by decide +kernel)
theorem q_f_J0_9 : Cond.fieldLink RJ0 9 "java/lang/String" "value" "[B" ∈ lw_all := lw_in 1005 (by decide +kernel) (by decide +kernel)
theorem q_l_J0_1059 : Cond.methodLink RJ0 1059 yJ3_checkIndex_8e157 ∈ lw_all := lw_in 918 (by decide +kernel) (by decide +kernel)
theorem q_l_J0_335 : Cond.methodLink RJ0 335 yJ0_coder_7d493 ∈ lw_all := lw_in 860 (by decide +kernel) (by decide +kernel)
theorem q_l_J0_492 : Cond.methodLink RJ0 492 yJ0_isLatin1_aae02 ∈ lw_all := lw_in 1023 (by decide +kernel) (by decide +kernel)
theorem q_l_J0_495 : Cond.methodLink RJ0 495 yJ1_charAt_3b067 ∈ lw_all := lw_in 1027 (by decide +kernel) (by decide +kernel)
theorem q_l_J1_9 : Cond.methodLink RJ1 9 yJ0_checkIndex_df160 ∈ lw_all := lw_in 1030 (by decide +kernel) (by decide +kernel)
theorem q_c_J0_length_8abf5 : Cond.code yJ0_length_8abf5 cJ0_length_8abf5 1 (some .int) ∈ lw_all := lw_in 859 (by decide +kernel) (by decide +kernel)
theorem q_c_J0_charAt_5068e : Cond.code yJ0_charAt_5068e cJ0_charAt_5068e 2 (some .char) ∈ lw_all := lw_in 1022 (by decide +kernel) (by decide +kernel)
theorem q_c_J0_coder_7d493 : Cond.code yJ0_coder_7d493 cJ0_coder_7d493 1 (some .byte) ∈ lw_all := lw_in 863 (by decide +kernel) (by decide +kernel)
theorem q_c_J0_isLatin1_aae02 : Cond.code yJ0_isLatin1_aae02 cJ0_isLatin1_aae02 1 (some .boolean) ∈ lw_all := lw_in 1026 (by decide +kernel) (by decide +kernel)
theorem q_c_J0_checkIndex_df160 : Cond.code yJ0_checkIndex_df160 cJ0_checkIndex_df160 2 none ∈ lw_all := lw_in 917 (by decide +kernel) (by decide +kernel)
theorem q_c_J1_charAt_3b067 : Cond.code yJ1_charAt_3b067 cJ1_charAt_3b067 2 (some .char) ∈ lw_all := lw_in 1029 (by decide +kernel) (by decide +kernel)
theorem q_c_J3_checkIndex_8e157 : Cond.code yJ3_checkIndex_8e157 cJ3_checkIndex_8e157 3 (some .int) ∈ lw_all := lw_in 920 (by decide +kernel) (by decide +kernel)
theorem q_n_J0 : Cond.initialized RJ0 ∈ lw_all := lw_in 37 (by decide +kernel) (by decide +kernel)
theorem q_n_J1 : Cond.initialized RJ1 ∈ lw_all := lw_in 50 (by decide +kernel) (by decide +kernel)
theorem q_n_J3 : Cond.initialized RJ3 ∈ lw_all := lw_in 49 (by decide +kernel) (by decide +kernel)
theorem q_t_J0_checkIndex_df160 : Cond.static yJ0_checkIndex_df160 ∈ lw_all := lw_in 916 (by decide +kernel) (by decide +kernel)
theorem q_t_J1_charAt_3b067 : Cond.static yJ1_charAt_3b067 ∈ lw_all := lw_in 1028 (by decide +kernel) (by decide +kernel)
theorem q_t_J3_checkIndex_8e157 : Cond.static yJ3_checkIndex_8e157 ∈ lw_all := lw_in 919 (by decide +kernel) (by decide +kernel)
theorem q_i_J0_coder_7d493 : Cond.instanceMethod yJ0_coder_7d493 ∈ lw_all := lw_in 861 (by decide +kernel) (by decide +kernel)
theorem q_i_J0_isLatin1_aae02 : Cond.instanceMethod yJ0_isLatin1_aae02 ∈ lw_all := lw_in 1024 (by decide +kernel) (by decide +kernel)
theorem q_i_J0_length_8abf5 : Cond.instanceMethod yJ0_length_8abf5 ∈ lw_all := lw_in 857 (by decide +kernel) (by decide +kernel)
theorem q_i_J0_charAt_5068e : Cond.instanceMethod yJ0_charAt_5068e ∈ lw_all := lw_in 1020 (by decide +kernel) (by decide +kernel)
theorem q_s_J0_coder_7d493 : Cond.selects yJ0_coder_7d493.cls yJ0_coder_7d493 yJ0_coder_7d493 ∈ lw_all := lw_in 862 (by decide +kernel) (by decide +kernel)
theorem q_s_J0_isLatin1_aae02 : Cond.selects yJ0_isLatin1_aae02.cls yJ0_isLatin1_aae02 yJ0_isLatin1_aae02 ∈ lw_all := lw_in 1025 (by decide +kernel) (by decide +kernel)
theorem q_s_J0_length_8abf5 : Cond.selects yJ0_length_8abf5.cls yJ0_length_8abf5 yJ0_length_8abf5 ∈ lw_all := lw_in 858 (by decide +kernel) (by decide +kernel)
theorem q_s_J0_charAt_5068e : Cond.selects yJ0_charAt_5068e.cls yJ0_charAt_5068e yJ0_charAt_5068e ∈ lw_all := lw_in 1021 (by decide +kernel) (by decide +kernel)
section ERows
variable {D : va_G} {t : Nat → ClassId} {E : gx_E} {l : Launch} {R : Room} {cc : ByteArray} {own : String} {nL : Nat} {J : gx_J} {k n : Nat} {w : va_W} {pc : Nat} {L : List (Nat × Value)} {st : List Value}
theorem j_gets (g : gx_G D t E l R cc own nL J) {C ref n1 d1 : String} {v : Value} {index : Nat} (hZ : ∀ (A : Nat → Prop) (U : State) (H : Heap), E A U H → va_Z C n1 d1 v A U H) (hlink : Cond.fieldLink own index ref n1 d1 ∈ lw_all) (hr : C = ref) (hd : decode cc pc = .ok (.getstatic index, 3)) (kk : J k n w (pc + 3) L (v :: st)) : J k n w pc L st := by
  obtain ⟨p, e, s, m, args, below, meth, c, A, Q, rfl, hx, hb, hml, hown, hts, hK, hA, hE⟩ := g
  intro H locs ls hP hD hS hl
  exact va_gets hx hb (hZ _ _ _ hE.2) hS hown (hts _ hlink) (fun _ h9 => by rw [← hr]; exact h9) hd (kk H locs ls hP hD hS hl)
theorem j_getsq (g : gx_G D t E l R cc own nL J) {C ref n1 d1 : String} {index : Nat} (hZ : ∀ (A : Nat → Prop) (U : State) (H : Heap), E A U H → va_Zq C n1 d1 A U H) (hlink : Cond.fieldLink own index ref n1 d1 ∈ lw_all) (hr : C = ref) (hd : decode cc pc = .ok (.getstatic index, 3)) (kk : ∀ v : Value, v.category = 1 → J k n w (pc + 3) L (v :: st)) : J k n w pc L st := by
  obtain ⟨p, e, s, m, args, below, meth, c, A, Q, rfl, hx, hb, hml, hown, hts, hK, hA, hE⟩ := g
  intro H locs ls hP hD hS hl
  rcases hZ _ _ _ hE.2 with h | ⟨q, h⟩
  · exact va_gets hx hb h hS hown (hts _ hlink) (fun _ h9 => by rw [← hr]; exact h9) hd (kk _ rfl H locs ls hP hD hS hl)
  · exact va_gets hx hb h hS hown (hts _ hlink) (fun _ h9 => by rw [← hr]; exact h9) hd (kk _ rfl H locs ls hP hD hS hl)
theorem j_getO (g : gx_G D t E l R cc own nL J) {o ref n1 d1 : String} {v : Value} {index q : Nat} (hO : ∀ (A : Nat → Prop) (U : State) (H : Heap), E A U H → va_OF o n1 d1 v q A U H) (hlink : Cond.fieldLink own index ref n1 d1 ∈ lw_all) (hr : o = ref) (hd : decode cc pc = .ok (.getfield index, 3)) (kk : J k n w (pc + 3) L (v :: st)) : J k n w pc L (.ref q :: st) := by
  obtain ⟨p, e, s, m, args, below, meth, c, A, Q, rfl, hx, hb, hml, hown, hts, hK, hA, hE⟩ := g
  intro H locs ls hP hD hS hl
  exact vk_getf hx hb (hO _ _ _ hE.2) hS hown (hts _ hlink) (fun _ h9 => by rw [← hr]; exact h9) hd (kk H locs ls hP hD hS hl)
theorem j_tlen (g : gx_G D t E l R cc own nL J) {ty : FieldType} {q N : Nat} {f : Nat → Value} (hT : ∀ (A : Nat → Prop) (U : State) (H : Heap), E A U H → va_T ty q N f A U H) (hd : decode cc pc = .ok (.arraylength, 1)) (kk : J k n w (pc + 1) L (.int (Int32.ofNat N) :: st)) : J k n w pc L (.ref q :: st) := by
  obtain ⟨p, e, s, m, args, below, meth, c, A, Q, rfl, hx, hb, hml, hown, hts, hK, hA, hE⟩ := g
  intro H locs ls hP hD hS hl
  exact va_tlen hx hb (hT _ _ _ hE.2) hS rfl hd (kk H locs ls hP hD hS hl)
theorem j_tb (g : gx_G D t E l R cc own nL J) {q N : Nat} {f : Nat → Value} {v : Value} {i : Int32} (hT : ∀ (A : Nat → Prop) (U : State) (H : Heap), E A U H → va_T .byte q N f A U H) (hin : gx_in i N) (hv : f i.toNatClampNeg = v) (hd : decode cc pc = .ok (.baload, 1)) (kk : J k n w (pc + 1) L (v :: st)) : J k n w pc L (.int i :: .ref q :: st) := by
  obtain ⟨p, e, s, m, args, below, meth, c, A, Q, rfl, hx, hb, hml, hown, hts, hK, hA, hE⟩ := g
  intro H locs ls hP hD hS hl
  exact va_tb hx hb (hT _ _ _ hE.2) hS hin hv hd (kk H locs ls hP hD hS hl)
theorem j_tq (g : gx_G D t E l R cc own nL J) {C : String} {q N : Nat} {f : Nat → Value} {v : Value} {i : Int32} (hT : ∀ (A : Nat → Prop) (U : State) (H : Heap), E A U H → va_T (.object C) q N f A U H) (hin : gx_in i N) (hv : f i.toNatClampNeg = v) (hd : decode cc pc = .ok (.aaload, 1)) (kk : J k n w (pc + 1) L (v :: st)) : J k n w pc L (.int i :: .ref q :: st) := by
  obtain ⟨p, e, s, m, args, below, meth, c, A, Q, rfl, hx, hb, hml, hown, hts, hK, hA, hE⟩ := g
  intro H locs ls hP hD hS hl
  exact vb_tq hx hb (hT _ _ _ hE.2) hS hin hv hd (kk H locs ls hP hD hS hl)
theorem j_ldcS (g : gx_G D t E l R cc own nL J) {tx : String} {index q : Nat} (hR : ∀ (A : Nat → Prop) (U : State) (H : Heap), E A U H → vk_R own index tx q U) (hd : decode cc pc = .ok (.ldc index, 2)) (kk : J k n w (pc + 2) L (.ref q :: st)) : J k n w pc L st := by
  obtain ⟨p, e, s, m, args, below, meth, c, A, Q, rfl, hx, hb, hml, hown, hts, hK, hA, hE⟩ := g
  intro H locs ls hP hD hS hl
  exact va_ldcS hx hb hown (hR _ _ _ hE.2) hd (kk H locs ls hP hD hS hl)
theorem j_ishr (g : gx_G D t E l R cc own nL J) {x y : Int32} (hd : decode cc pc = .ok (.ishr, 1)) (kk : J k n w (pc + 1) L (.int (x >>> (y &&& 31)) :: st)) : J k n w pc L (.int y :: .int x :: st) := by
  obtain ⟨p, e, s, m, args, below, meth, c, A, Q, rfl, hx, hb, hml, hown, hts, hK, hA, hE⟩ := g
  intro H locs ls hP hD hS hl
  exact lv_ishr hx hb hd (kk H locs ls hP hD hS hl)
theorem j_callVEi (g : gx_G D t E l R cc own nL J) {y : MethodName} {bC : ByteArray} {nC fr lo : Nat} {ret : Option FieldType} {w' wc wc' : va_W} {index na a : Nat} {As rest : List Value} {r : Int32} (hC : gx_C D t E l y bC nC ret fr lo (.ref a :: As) wc wc' (some (.int r))) (hO : ∀ (A : Nat → Prop) (U : State) (H : Heap), E A U H → va_O y.cls a A U H) (hinst : Cond.instanceMethod y ∈ lw_all) (hsel : Cond.selects y.cls y y ∈ lw_all) (hcode : Cond.code y bC nC ret ∈ lw_all) (hlink : Cond.methodLink own index y ∈ lw_all) (hini : Cond.initialized y.cls ∈ lw_all) (hd0 : y.cls ≠ "java/lang/invoke/MethodHandle" ∧ y.cls ≠ "java/lang/invoke/VarHandle" ∧ (parseMethodDescriptor y.desc).map (fun d => d.parameters.length) = some na) (hna : As.length = na) (hR : fr + 1 ≤ R.frames ∧ 8 + (nC + 11) + lo ≤ R.locals) (hkn : k ≤ R.cells ∧ n ≤ R.slots) (hcat : (rest.map fun v => v.category).sum ≤ 8) (hp : w.Perm wc) (hp' : wc'.Perm w') (hd : decode cc pc = .ok (.invokevirtual index, 3)) (kk : J k n w' (pc + 3) L (.int r :: rest)) {st : List Value} (hstk : st = As.reverse ++ .ref a :: rest) : J k n w pc L st := by
  obtain ⟨p, e, s, m, args, below, meth, c, A, Q, rfl, hx, hb, hml, hown, hts, hK, hA, hE⟩ := g
  intro H locs ls hP hD hS hl
  subst hstk
  have hrc : ∃ cellB : Cell, H[a]? = some cellB ∧ cellB.vm.isStatics = false ∧ s.vm.findClass y.cls = some cellB.cls := by
    obtain ⟨cell, h1, h2, h3, -⟩ := (hO _ _ _ hE.2).kept hS.2.1
    exact ⟨cell, h1, h2, h3⟩
  exact gx_call (r := (some (.int r))) (rest := rest) (va_runV (As := As) (rest := rest) ⟨hx, hb, hml, hown, hts⟩ (hC H.size) ⟨callB_of na hts (gx_good hcode) rfl rfl rfl (hts _ hini) (hts _ hlink) hd0 ⟨hR.1, hR.2⟩, hts _ hinst, hts _ hsel⟩ ⟨(gx_pre (av := .ref a :: As) (wc := wc) hK hA hE hS hP hD hp).1, hrc, (gx_pre (av := .ref a :: As) (wc := wc) hK hA hE hS hP hD hp).2⟩ rfl hna hl.1 rfl (lv_room hcat) hd ⟨hkn.1, hkn.2⟩) hD hS hA hp hp' (fun H1 locs1 hP1 hD1 hS1 => kk H1 locs1 ls hP1 hD1 hS1 hl)
theorem j_callVEv (g : gx_G D t E l R cc own nL J) {y : MethodName} {bC : ByteArray} {nC fr lo : Nat} {ret : Option FieldType} {w' wc wc' : va_W} {index na a : Nat} {As rest : List Value} (hC : gx_C D t E l y bC nC ret fr lo (.ref a :: As) wc wc' none) (hO : ∀ (A : Nat → Prop) (U : State) (H : Heap), E A U H → va_O y.cls a A U H) (hinst : Cond.instanceMethod y ∈ lw_all) (hsel : Cond.selects y.cls y y ∈ lw_all) (hcode : Cond.code y bC nC ret ∈ lw_all) (hlink : Cond.methodLink own index y ∈ lw_all) (hini : Cond.initialized y.cls ∈ lw_all) (hd0 : y.cls ≠ "java/lang/invoke/MethodHandle" ∧ y.cls ≠ "java/lang/invoke/VarHandle" ∧ (parseMethodDescriptor y.desc).map (fun d => d.parameters.length) = some na) (hna : As.length = na) (hR : fr + 1 ≤ R.frames ∧ 8 + (nC + 11) + lo ≤ R.locals) (hkn : k ≤ R.cells ∧ n ≤ R.slots) (hcat : (rest.map fun v => v.category).sum ≤ 8) (hp : w.Perm wc) (hp' : wc'.Perm w') (hd : decode cc pc = .ok (.invokevirtual index, 3)) (kk : J k n w' (pc + 3) L (rest)) {st : List Value} (hstk : st = As.reverse ++ .ref a :: rest) : J k n w pc L st := by
  obtain ⟨p, e, s, m, args, below, meth, c, A, Q, rfl, hx, hb, hml, hown, hts, hK, hA, hE⟩ := g
  intro H locs ls hP hD hS hl
  subst hstk
  have hrc : ∃ cellB : Cell, H[a]? = some cellB ∧ cellB.vm.isStatics = false ∧ s.vm.findClass y.cls = some cellB.cls := by
    obtain ⟨cell, h1, h2, h3, -⟩ := (hO _ _ _ hE.2).kept hS.2.1
    exact ⟨cell, h1, h2, h3⟩
  exact gx_call (r := none) (rest := rest) (va_runV (As := As) (rest := rest) ⟨hx, hb, hml, hown, hts⟩ (hC H.size) ⟨callB_of na hts (gx_good hcode) rfl rfl rfl (hts _ hini) (hts _ hlink) hd0 ⟨hR.1, hR.2⟩, hts _ hinst, hts _ hsel⟩ ⟨(gx_pre (av := .ref a :: As) (wc := wc) hK hA hE hS hP hD hp).1, hrc, (gx_pre (av := .ref a :: As) (wc := wc) hK hA hE hS hP hD hp).2⟩ rfl hna hl.1 rfl (lv_room hcat) hd ⟨hkn.1, hkn.2⟩) hD hS hA hp hp' (fun H1 locs1 hP1 hD1 hS1 => kk H1 locs1 ls hP1 hD1 hS1 hl)
end ERows
theorem e_cs {aa : gx_AA} : ∀ (A : Nat → Prop) (U : State) (H : Heap), gx_E0 aa A U H → va_Z "java/lang/String" "COMPACT_STRINGS" "Z" (.int 1) A U H := fun A U H h => h.2.2.2.2.2.2.2.2.1
theorem e_fmt {aa : gx_AA} : ∀ (A : Nat → Prop) (U : State) (H : Heap), gx_E0 aa A U H → va_Zq "jdk/internal/util/Preconditions" "SIOOBE_FORMATTER" "Ljava/util/function/BiFunction;" A U H := fun A U H h => h.2.2.2.2.2.2.2.2.2.1
theorem e_so {aa : gx_AA} {i : Nat} (hi : i < 8) : ∀ (A : Nat → Prop) (U : State) (H : Heap), gx_E0 aa A U H → va_O "java/lang/String" (aa.1 i) A U H := fun A U H h => (h.2.1 i (Nat.lt_trans hi (by decide))).1
theorem e_sc {aa : gx_AA} {i : Nat} (hi : i < 8) : ∀ (A : Nat → Prop) (U : State) (H : Heap), gx_E0 aa A U H → va_OF "java/lang/String" "coder" "B" (.int 0) (aa.1 i) A U H := fun A U H h => (h.2.1 i (Nat.lt_trans hi (by decide))).2.1
theorem e_sv {aa : gx_AA} {i : Nat} (hi : i < 8) : ∀ (A : Nat → Prop) (U : State) (H : Heap), gx_E0 aa A U H → va_OF "java/lang/String" "value" "[B" (.ref (aa.2.1 i)) (aa.1 i) A U H := fun A U H h => (h.2.1 i (Nat.lt_trans hi (by decide))).2.2.1
theorem e_st {aa : gx_AA} {i : Nat} (hi : i < 8) : ∀ (A : Nat → Prop) (U : State) (H : Heap), gx_E0 aa A U H → va_T .byte (aa.2.1 i) (gx_len i) (fun j => .int (gx_chr i j)) A U H := fun A U H h => (h.2.1 i (Nat.lt_trans hi (by decide))).2.2.2
set_option maxRecDepth 100000 in
set_option maxHeartbeats 4000000 in
theorem c_coder {D : va_G} {t : Nat → ClassId} {aa : gx_AA} {l : Launch} {w : va_W} {i : Nat} (hi : i < 8) : gx_C D t (gx_E0 aa) l yJ0_coder_7d493 cJ0_coder_7d493 1 (some .byte) 0 0 [.ref (aa.1 i)] w w (some (.int (0))) := by
  refine gx_intro_i (by decide) (Nat.le_of_ble_eq_true rfl) (fun J g hE => ?_)
  refine j_gets (pc := 0) g e_cs q_f_J0_38 rfl dJ0_coder_7d493_0 ?_
  refine j_if_eq (tgt := 13) (pc := 3) g dJ0_coder_7d493_3 (by decide) (fun h => absurd h (by decide)) (fun _ => ?_)
  refine j_aload_n (pc := 6) g 0 dJ0_coder_7d493_6 rfl ?_
  refine j_getO (pc := 7) g (e_sc hi) q_f_J0_15 rfl dJ0_coder_7d493_7 ?_
  refine j_goto (tgt := 14) (pc := 10) g dJ0_coder_7d493_10 (by decide) ?_
  exact hE _ _ dJ0_coder_7d493_14 rfl
set_option maxRecDepth 100000 in
set_option maxHeartbeats 4000000 in
theorem c_isLatin1 {D : va_G} {t : Nat → ClassId} {aa : gx_AA} {l : Launch} {w : va_W} {i : Nat} (hi : i < 8) : gx_C D t (gx_E0 aa) l yJ0_isLatin1_aae02 cJ0_isLatin1_aae02 1 (some .boolean) 0 0 [.ref (aa.1 i)] w w (some (.int (1))) := by
  refine gx_intro_i (by decide) (Nat.le_of_ble_eq_true rfl) (fun J g hE => ?_)
  refine j_gets (pc := 0) g e_cs q_f_J0_38 rfl dJ0_isLatin1_aae02_0 ?_
  refine j_if_eq (tgt := 17) (pc := 3) g dJ0_isLatin1_aae02_3 (by decide) (fun h => absurd h (by decide)) (fun _ => ?_)
  refine j_aload_n (pc := 6) g 0 dJ0_isLatin1_aae02_6 rfl ?_
  refine j_getO (pc := 7) g (e_sc hi) q_f_J0_15 rfl dJ0_isLatin1_aae02_7 ?_
  refine j_if_ne (tgt := 17) (pc := 10) g dJ0_isLatin1_aae02_10 (by decide) (fun h => absurd rfl h) (fun _ => ?_)
  refine j_iconst (v := 1) (pc := 13) g dJ0_isLatin1_aae02_13 (by decide) ?_
  refine j_goto (tgt := 18) (pc := 14) g dJ0_isLatin1_aae02_14 (by decide) ?_
  exact hE _ _ dJ0_isLatin1_aae02_18 rfl
theorem gx_len_shr : ∀ i, i < 8 → (Int32.ofNat (gx_len i)) >>> ((0 : Int32) &&& 31) = nI (gx_len i) := by decide
theorem gx_chr_c : ∀ i, i < 8 → ∀ j, j < gx_len i → ((gx_chr i j &&& 255).toUInt32 % 65536).toInt32 = gx_chr i j := by decide
theorem gx_chr_n : ∀ i, i < 8 → ∀ j, j < gx_len i → vp_nar .char (gx_chr i j) = gx_chr i j := by decide
theorem gx_len_lt : ∀ i, i < 8 → gx_len i < 2 ^ 31 := by decide
set_option maxRecDepth 100000 in
set_option maxHeartbeats 4000000 in
theorem c_strlen {D : va_G} {t : Nat → ClassId} {aa : gx_AA} {l : Launch} {w : va_W} {i : Nat} (hi : i < 8) : gx_C D t (gx_E0 aa) l yJ0_length_8abf5 cJ0_length_8abf5 1 (some .int) 1 20 [.ref (aa.1 i)] w w (some (.int (nI (gx_len i)))) := by
  refine gx_intro_i (by decide) (Nat.le_of_ble_eq_true rfl) (fun J g hE => ?_)
  refine j_aload_n (pc := 0) g 0 dJ0_length_8abf5_0 rfl ?_
  refine j_getO (pc := 1) g (e_sv hi) q_f_J0_9 rfl dJ0_length_8abf5_1 ?_
  refine j_tlen (pc := 4) g (e_st hi) dJ0_length_8abf5_4 ?_
  refine j_aload_n (pc := 5) g 0 dJ0_length_8abf5_5 rfl ?_
  refine j_callVEi (pc := 6) (na := 0) (As := []) (rest := [.int (Int32.ofNat (gx_len i))]) g (c_coder hi) (e_so hi) q_i_J0_coder_7d493 q_s_J0_coder_7d493 q_c_J0_coder_7d493 q_l_J0_335 q_n_J0 (by decide +kernel) rfl ⟨Nat.le_of_ble_eq_true rfl, Nat.le_of_ble_eq_true rfl⟩ ⟨Nat.zero_le _, Nat.zero_le _⟩ (Nat.le_of_ble_eq_true rfl) (.refl _) (.refl _) dJ0_length_8abf5_6 ?_ rfl
  refine j_ishr (pc := 9) g dJ0_length_8abf5_9 ?_
  rw [gx_len_shr i hi]
  exact hE _ _ dJ0_length_8abf5_10 rfl
set_option maxRecDepth 100000 in
set_option maxHeartbeats 4000000 in
theorem c_pk {D : va_G} {t : Nat → ClassId} {aa : gx_AA} {l : Launch} {w : va_W} {x N : Int32} {v : Value} (hv : v.category = 1) (h0 : ¬ x < 0) (h1 : x < N) : gx_C D t (gx_E0 aa) l yJ3_checkIndex_8e157 cJ3_checkIndex_8e157 3 (some .int) 0 0 [.int x, .int N, v] w w (some (.int (x))) := by
  refine gx_intro_i (by decide) ?_ (fun J g hE => ?_)
  · have e9 : lg_sl [Value.int x, .int N, v] = [Slot.val (.int x), Slot.val (.int N)] ++ lg_sl [v] := rfl
    rw [e9]; simp [lg_sl, hv]
  have hL : lv_args 0 [Value.int x, .int N, v] = [(0, .int x), (1, .int N), (2, v)] := rfl
  rw [hL]
  refine j_iload_n (pc := 0) g 0 dJ3_checkIndex_8e157_0 rfl ?_
  refine j_if_lt (tgt := 9) (pc := 1) g dJ3_checkIndex_8e157_1 (by decide) (fun h => absurd h h0) (fun _ => ?_)
  refine j_iload_n (pc := 4) g 0 dJ3_checkIndex_8e157_4 rfl ?_
  refine j_iload_n (pc := 5) g 1 dJ3_checkIndex_8e157_5 rfl ?_
  refine j_icmp_lt (tgt := 16) (pc := 6) g dJ3_checkIndex_8e157_6 (by decide) (fun _ => ?_) (fun h => absurd h1 h)
  refine j_iload_n (pc := 16) g 0 dJ3_checkIndex_8e157_16 rfl ?_
  exact hE _ _ dJ3_checkIndex_8e157_17 rfl
set_option maxRecDepth 100000 in
set_option maxHeartbeats 4000000 in
theorem c_ck {D : va_G} {t : Nat → ClassId} {aa : gx_AA} {l : Launch} {w : va_W} {x N : Int32} (h0 : ¬ x < 0) (h1 : x < N) : gx_C D t (gx_E0 aa) l yJ0_checkIndex_df160 cJ0_checkIndex_df160 2 none 1 22 [.int x, .int N] w w none := by
  refine gx_intro_v (by decide) (Nat.le_of_ble_eq_true rfl) (fun J g hE => ?_)
  refine j_iload_n (pc := 0) g 0 dJ0_checkIndex_df160_0 rfl ?_
  refine j_iload_n (pc := 1) g 1 dJ0_checkIndex_df160_1 rfl ?_
  refine j_getsq (pc := 2) g e_fmt q_f_J0_1053 rfl dJ0_checkIndex_df160_2 (fun v hv => ?_)
  refine j_callSi (pc := 5) (na := 3) (As := [.int x, .int N, v]) (rest := []) g (c_pk hv h0 h1) q_t_J3_checkIndex_8e157 q_c_J3_checkIndex_8e157 q_l_J0_1059 q_n_J3 (by decide +kernel) rfl ⟨Nat.le_of_ble_eq_true rfl, Nat.le_of_ble_eq_true rfl⟩ ⟨Nat.zero_le _, Nat.zero_le _⟩ (Nat.le_of_ble_eq_true rfl) (.refl _) (.refl _) dJ0_checkIndex_df160_5 ?_ rfl
  refine j_pop (pc := 8) g dJ0_checkIndex_df160_8 rfl ?_
  exact hE _ _ dJ0_checkIndex_df160_9
theorem gx_in_lt {x : Int32} {N : Nat} (h : gx_in x N) (hN : N < 2 ^ 31) : ¬ x < 0 ∧ x < nI N ∧ x.toNatClampNeg < N := by
  have h1 : ¬ x < 0 := fun q => h (Or.inl q)
  have h2 : x.toNatClampNeg < N := Nat.not_le.mp fun q => h (Or.inr q)
  refine ⟨h1, ?_, h2⟩
  obtain ⟨j, hj, rfl⟩ := nI_of h1
  rw [nI_clamp hj] at h2
  exact nI_lt h2 hN
set_option maxRecDepth 100000 in
set_option maxHeartbeats 4000000 in
theorem c_lc {D : va_G} {t : Nat → ClassId} {aa : gx_AA} {l : Launch} {w : va_W} {i : Nat} {x : Int32} (hi : i < 8) (hin : gx_in x (gx_len i)) : gx_C D t (gx_E0 aa) l yJ1_charAt_3b067 cJ1_charAt_3b067 2 (some .char) 2 43 [.ref (aa.2.1 i), .int x] w w (some (.int (gx_chr i x.toNatClampNeg))) := by
  obtain ⟨h0, h1, h2⟩ := gx_in_lt hin (gx_len_lt i hi)
  refine gx_intro_i (by decide) (Nat.le_of_ble_eq_true rfl) (fun J g hE => ?_)
  refine j_iload_n (pc := 0) g 1 dJ1_charAt_3b067_0 rfl ?_
  refine j_aload_n (pc := 1) g 0 dJ1_charAt_3b067_1 rfl ?_
  refine j_tlen (pc := 2) g (e_st hi) dJ1_charAt_3b067_2 ?_
  refine j_callSv (pc := 3) (na := 2) (As := [.int x, .int (Int32.ofNat (gx_len i))]) (rest := []) g (c_ck h0 h1) q_t_J0_checkIndex_df160 q_c_J0_checkIndex_df160 q_l_J1_9 q_n_J0 (by decide +kernel) rfl ⟨Nat.le_of_ble_eq_true rfl, Nat.le_of_ble_eq_true rfl⟩ ⟨Nat.zero_le _, Nat.zero_le _⟩ (Nat.le_of_ble_eq_true rfl) (.refl _) (.refl _) dJ1_charAt_3b067_3 ?_ rfl
  refine j_aload_n (pc := 6) g 0 dJ1_charAt_3b067_6 rfl ?_
  refine j_iload_n (pc := 7) g 1 dJ1_charAt_3b067_7 rfl ?_
  refine j_tb (pc := 8) g (e_st hi) hin rfl dJ1_charAt_3b067_8 ?_
  refine j_sipush (v := 255) (pc := 9) g dJ1_charAt_3b067_9 (by decide) ?_
  refine j_iand (pc := 12) g dJ1_charAt_3b067_12 ?_
  refine j_i2c (pc := 13) g dJ1_charAt_3b067_13 ?_
  rw [gx_chr_c i hi _ h2]
  exact hE _ _ dJ1_charAt_3b067_14 (gx_narC (gx_chr_n i hi _ h2))
set_option maxRecDepth 100000 in
set_option maxHeartbeats 4000000 in
theorem c_strchr {D : va_G} {t : Nat → ClassId} {aa : gx_AA} {l : Launch} {w : va_W} {i : Nat} {x : Int32} (hi : i < 8) (hin : gx_in x (gx_len i)) : gx_C D t (gx_E0 aa) l yJ0_charAt_5068e cJ0_charAt_5068e 2 (some .char) 3 64 [.ref (aa.1 i), .int x] w w (some (.int (gx_chr i x.toNatClampNeg))) := by
  obtain ⟨h0, h1, h2⟩ := gx_in_lt hin (gx_len_lt i hi)
  refine gx_intro_i (by decide) (Nat.le_of_ble_eq_true rfl) (fun J g hE => ?_)
  refine j_aload_n (pc := 0) g 0 dJ0_charAt_5068e_0 rfl ?_
  refine j_callVEi (pc := 1) (na := 0) (As := []) (rest := []) g (c_isLatin1 hi) (e_so hi) q_i_J0_isLatin1_aae02 q_s_J0_isLatin1_aae02 q_c_J0_isLatin1_aae02 q_l_J0_492 q_n_J0 (by decide +kernel) rfl ⟨Nat.le_of_ble_eq_true rfl, Nat.le_of_ble_eq_true rfl⟩ ⟨Nat.zero_le _, Nat.zero_le _⟩ (Nat.le_of_ble_eq_true rfl) (.refl _) (.refl _) dJ0_charAt_5068e_1 ?_ rfl
  refine j_if_eq (tgt := 16) (pc := 4) g dJ0_charAt_5068e_4 (by decide) (fun h => absurd h (by decide)) (fun _ => ?_)
  refine j_aload_n (pc := 7) g 0 dJ0_charAt_5068e_7 rfl ?_
  refine j_getO (pc := 8) g (e_sv hi) q_f_J0_9 rfl dJ0_charAt_5068e_8 ?_
  refine j_iload_n (pc := 11) g 1 dJ0_charAt_5068e_11 rfl ?_
  refine j_callSi (pc := 12) (na := 2) (As := [.ref (aa.2.1 i), .int x]) (rest := []) g (c_lc hi hin) q_t_J1_charAt_3b067 q_c_J1_charAt_3b067 q_l_J0_495 q_n_J1 (by decide +kernel) rfl ⟨Nat.le_of_ble_eq_true rfl, Nat.le_of_ble_eq_true rfl⟩ ⟨Nat.zero_le _, Nat.zero_le _⟩ (Nat.le_of_ble_eq_true rfl) (.refl _) (.refl _) dJ0_charAt_5068e_12 ?_ rfl
  exact hE _ _ dJ0_charAt_5068e_15 (gx_narC (gx_chr_n i hi _ h2))
