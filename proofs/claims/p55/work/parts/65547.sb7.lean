abbrev sbS (t : Nat → ClassId) (a q n : Nat) (f : Nat → Int32) (rs : va_W) : va_W := (a, .inr (0, [.ref q, .int 0, .int 0, .int 0])) :: (q, .inl (t 5, n, .inl f)) :: rs
section SB8
variable {D : va_G} {t : Nat → ClassId} {aa : gx_AA} {E : gx_E} {l : Launch} {b da a : Nat} {ml : Int32} {n M : Nat} {f : Nat → Int32} {rs : va_W} {cs : List Nat}
set_option maxRecDepth 100000 in
theorem z_getValue : gx_CP D t E l yJ5_getValue_6d5f1 cJ5_getValue_6d5f1 1 (some (.array .byte)) 0 0 0 0 [.ref b] (sbB t b da ml n M f rs) (fun r w' => r = some (.ref da) ∧ w' = sbB t b da ml n M f rs) := by
  refine gx_intro_pa (by decide) (Nat.le_of_ble_eq_true rfl) (Or.inr ⟨_, rfl⟩) (fun J g hE => ?_)
  refine j_aload_n (pc := 0) g 0 dJ5_getValue_6d5f1_0 rfl ?_
  refine j_get (pc := 1) g in_J4 0 rfl (ci := 10) rfl 0 (by decide) q_f_J5_15 rfl rfl dJ5_getValue_6d5f1_1 ?_
  exact hE _ _ _ _ _ dJ5_getValue_6d5f1_4 (.refl _) ⟨rfl, rfl⟩
set_option maxRecDepth 100000 in
theorem z_len5 : gx_CP D t E l yJ5_length_8abf5 cJ5_length_8abf5 1 (some .int) 0 0 0 0 [.ref b] (sbB t b da ml n M f rs) (fun r w' => r = some (.int (nI n)) ∧ w' = sbB t b da ml n M f rs) := by
  refine gx_intro_pi (by decide) (Nat.le_of_ble_eq_true rfl) (fun J g hE => ?_)
  refine j_aload_n (pc := 0) g 0 dJ5_length_8abf5_0 rfl ?_
  refine j_get (pc := 1) g in_J4 0 rfl (ci := 10) rfl 3 (by decide) q_f_J5_79 rfl rfl dJ5_length_8abf5_1 ?_
  exact hE _ _ _ _ _ dJ5_length_8abf5_4 rfl (.refl _) ⟨rfl, rfl⟩
set_option maxRecDepth 100000 in
theorem z_len4 : gx_CP D t E l yJ4_length_8abf5 cJ4_length_8abf5 1 (some .int) 1 30 0 0 [.ref b] (sbB t b da ml n M f rs) (fun r w' => r = some (.int (nI n)) ∧ w' = sbB t b da ml n M f rs) := by
  refine gx_intro_pi (by decide) (Nat.le_of_ble_eq_true rfl) (fun J g hE => ?_)
  refine j_aload_n (pc := 0) g 0 dJ4_length_8abf5_0 rfl ?_
  refine j_callPR (pc := 1) (na := 0) (As := []) (rest := []) g z_len5 (qc := (RJ4, TJ4, 4)) (ci := 10) (q0 := 0) rfl rfl q_in_J4 q_i_J5_length_8abf5 q_m_J5_length_8abf5 q_su_J4 (by decide) q_c_J5_length_8abf5 q_l_J4_343 q_n_J5 (by decide +kernel) rfl ⟨Nat.le_of_ble_eq_true rfl, Nat.le_of_ble_eq_true rfl⟩ ⟨Nat.zero_le _, Nat.zero_le _⟩ (Nat.le_of_ble_eq_true rfl) (.refl _) dJ4_length_8abf5_1 rfl ?_
  rintro r w' ⟨rfl, rfl⟩
  exact hE _ _ _ _ _ dJ4_length_8abf5_4 rfl (.refl _) ⟨rfl, rfl⟩
set_option maxRecDepth 100000 in
theorem z_checkLength {w : va_W} (hn : n < 2 ^ 31) : gx_CP D t E l yJ7_checkLength_df160 cJ7_checkLength_df160 2 none 0 0 0 0 [.int 0, .int (nI n)] w (fun r w' => r = none ∧ w' = w) := by
  refine gx_intro_pv (by decide) (Nat.le_of_ble_eq_true rfl) (fun J g hE => ?_)
  refine j_iload_n (pc := 0) g 1 dJ7_checkLength_df160_0 rfl ?_
  refine j_iload_n (pc := 1) g 0 dJ7_checkLength_df160_1 rfl ?_
  refine j_icmp_ge (tgt := 37) (pc := 2) g dJ7_checkLength_df160_2 (by decide) (fun _ => ?_) (fun h => absurd (nI_pos' hn) h)
  exact hE _ _ _ _ dJ7_checkLength_df160_37 (.refl _) ⟨rfl, rfl⟩
set_option maxRecDepth 100000 in
set_option maxHeartbeats 4000000 in
theorem z_copyRB (hn : n < M) (hM : M ≤ 34) (hf : sb_Fit f) : gx_CP D t E l yJ7_copyOfRangeByte_39247 cJ7_copyOfRangeByte_39247 5 (some (.array .byte)) 1 60 1 34 [.ref da, .int 0, .int (nI n)] ((da, .inl (t 5, M, .inl f)) :: rs) (fun r w' => ∃ (q : Nat) (f' : Nat → Int32), r = some (.ref q) ∧ w' = (q, .inl (t 5, n, .inl f')) :: (da, .inl (t 5, M, .inl f)) :: rs ∧ ∀ j, j < n → f' j = f j) := by
  have hc : (nI n).toNatClampNeg = n := nI_clamp (by omega)
  refine gx_intro_pa (by decide) (Nat.le_of_ble_eq_true rfl) (Or.inr ⟨_, rfl⟩) (fun J g hE => ?_)
  refine j_iload_n (pc := 0) g 1 dJ7_copyOfRangeByte_39247_0 rfl ?_
  refine j_iload_n (pc := 1) g 2 dJ7_copyOfRangeByte_39247_1 rfl ?_
  refine j_callPS (pc := 2) (na := 2) (As := [.int 0, .int (nI n)]) (rest := []) g (z_checkLength (by omega)) q_t_J7_checkLength_df160 q_c_J7_checkLength_df160 q_l_J7_343 q_n_J7 (by decide +kernel) rfl ⟨Nat.le_of_ble_eq_true rfl, Nat.le_of_ble_eq_true rfl⟩ ⟨Nat.zero_le _, Nat.zero_le _⟩ (Nat.le_of_ble_eq_true rfl) (.refl _) dJ7_copyOfRangeByte_39247_2 rfl ?_
  rintro r w' ⟨rfl, rfl⟩
  refine j_iload_n (pc := 5) g 2 dJ7_copyOfRangeByte_39247_5 rfl ?_
  refine j_iload_n (pc := 6) g 1 dJ7_copyOfRangeByte_39247_6 rfl ?_
  refine j_isub (pc := 7) g dJ7_copyOfRangeByte_39247_7 ?_
  rw [Int32.sub_zero]
  refine j_istore_n (i := 3) (L' := [(3, .int (nI n)), (0, .ref da), (1, .int 0), (2, .int (nI n))]) (pc := 8) g dJ7_copyOfRangeByte_39247_8 rfl (Nat.le_of_ble_eq_true rfl) rfl ?_
  refine j_iload_n (pc := 9) g 0 dJ7_copyOfRangeByte_39247_9 rfl ?_
  refine j_newb (pc := 10) (N := n) g q_a_byte (nI_pos (by omega)) hc (by omega) (Nat.le_of_ble_eq_true rfl) (by show 0 + 0 + n ≤ 34; omega) dJ7_copyOfRangeByte_39247_10 (fun q => ?_)
  refine j_wid g (k' := 1) (n' := 34) (Nat.le_refl _) (by omega) ?_
  refine j_astore (i := 4) (L' := [(4, .ref q), (3, .int (nI n)), (0, .ref da), (1, .int 0), (2, .int (nI n))]) (pc := 12) g dJ7_copyOfRangeByte_39247_12 (Nat.le_of_ble_eq_true rfl) rfl ?_
  refine j_aload_n (pc := 14) g 2 dJ7_copyOfRangeByte_39247_14 rfl ?_
  refine j_iload_n (pc := 15) g 3 dJ7_copyOfRangeByte_39247_15 rfl ?_
  refine j_aload (pc := 16) g 0 dJ7_copyOfRangeByte_39247_16 rfl ?_
  refine j_iconst (v := 0) (pc := 18) g dJ7_copyOfRangeByte_39247_18 (by decide) ?_
  refine j_aload_n (pc := 19) g 2 dJ7_copyOfRangeByte_39247_19 rfl ?_
  refine j_alenb (pc := 20) g 1 rfl dJ7_copyOfRangeByte_39247_20 ?_
  refine j_iload_n (pc := 21) g 3 dJ7_copyOfRangeByte_39247_21 rfl ?_
  refine j_isub (pc := 22) g dJ7_copyOfRangeByte_39247_22 ?_
  rw [Int32.sub_zero]
  refine j_iload_n (pc := 23) g 1 dJ7_copyOfRangeByte_39247_23 rfl ?_
  refine j_min (pc := 24) g q_l_J7_304 q_t_J9_min_7cf53 q_n_J9 q_c_J9_min_7cf53 (Nat.le_of_ble_eq_true rfl) (Nat.le_of_ble_eq_true rfl) ⟨Nat.le_of_ble_eq_true rfl, Nat.le_of_ble_eq_true rfl⟩ dJ7_copyOfRangeByte_39247_24 ?_
  rw [if_pos (show nI n < Int32.ofNat M from nI_lt hn (by omega))]
  refine j_copyb (pc := 27) g q_l_J7_150 q_v_copy q_t_copy q_n_J10 1 0 rfl rfl (by decide) (by decide) (nI_pos (by omega)) (by rw [hc]; show 0 + n ≤ M; omega) (by rw [hc]; show 0 + n ≤ n; omega) hf (Nat.le_of_ble_eq_true rfl) (Nat.le_of_ble_eq_true rfl) rfl dJ7_copyOfRangeByte_39247_27 ?_
  rw [hc]
  refine j_aload (pc := 30) g 0 dJ7_copyOfRangeByte_39247_30 rfl ?_
  exact hE _ _ _ _ _ dJ7_copyOfRangeByte_39247_32 (.refl _) ⟨q, _, rfl, rfl, fun j hj => sb_cpy0 hj⟩
theorem e_cl (h0 : zE aa E) : ∀ (A : Nat → Prop) (U : State) (H : Heap), E A U H → va_Nw (.castable "[B" "java/lang/Cloneable") U := fun A U H h => by
  obtain ⟨-, -, -, -, -, -, -, -, -, -, -, -, h13, -⟩ := h0 A U H h
  exact h13 _ (List.mem_filter.mpr ⟨List.mem_of_getElem? (i := 821) (by decide +kernel), rfl⟩)
set_option maxRecDepth 100000 in
set_option maxHeartbeats 4000000 in
theorem z_copyR (h0 : zE aa E) (hn : n ≤ M) (hM : M ≤ 34) (hf : sb_Fit f) : gx_CP D t E l yJ7_copyOfRange_39247 cJ7_copyOfRange_39247 3 (some (.array .byte)) 2 90 1 34 [.ref da, .int 0, .int (nI n)] ((da, .inl (t 5, M, .inl f)) :: rs) (fun r w' => ∃ (q : Nat) (f' : Nat → Int32), r = some (.ref q) ∧ w' = (q, .inl (t 5, n, .inl f')) :: (da, .inl (t 5, M, .inl f)) :: rs ∧ ∀ j, j < n → f' j = f j) := by
  refine gx_intro_pa (by decide) (Nat.le_of_ble_eq_true rfl) (Or.inr ⟨_, rfl⟩) (fun J g hE => ?_)
  refine j_iload_n (pc := 0) g 1 dJ7_copyOfRange_39247_0 rfl ?_
  refine j_if_ne (tgt := 10) (pc := 1) g dJ7_copyOfRange_39247_1 (by decide) (fun h => absurd rfl h) (fun _ => ?_)
  refine j_iload_n (pc := 4) g 2 dJ7_copyOfRange_39247_4 rfl ?_
  refine j_aload_n (pc := 5) g 0 dJ7_copyOfRange_39247_5 rfl ?_
  refine j_alenb (pc := 6) g 0 rfl dJ7_copyOfRange_39247_6 ?_
  refine j_icmp_eq (tgt := 17) (pc := 7) g dJ7_copyOfRange_39247_7 (by decide) (fun h => ?_) (fun h => ?_)
  · have e : n = M := (nI_eq (by omega) (by omega)).mp h
    subst e
    refine j_aload_n (pc := 17) g 0 dJ7_copyOfRange_39247_17 rfl ?_
    refine j_cloneb (pc := 18) g q_l_J7_310 (e_cl h0) 0 rfl hf (Nat.le_of_ble_eq_true rfl) (Nat.le_of_ble_eq_true rfl) (Nat.le_of_ble_eq_true rfl) (by show 0 + n ≤ 34; omega) dJ7_copyOfRange_39247_18 (fun q => ?_)
    refine j_castb (pc := 21) g q_k_J7_311 0 rfl dJ7_copyOfRange_39247_21 ?_
    refine j_wid g (k' := 1) (n' := 34) (Nat.le_refl _) (by omega) ?_
    exact hE _ _ _ _ _ dJ7_copyOfRange_39247_24 (.refl _) ⟨q, _, rfl, rfl, fun j hj => rfl⟩
  · have e : n < M := Nat.lt_of_le_of_ne hn (fun e => h (by subst e; rfl))
    refine j_aload_n (pc := 10) g 0 dJ7_copyOfRange_39247_10 rfl ?_
    refine j_iload_n (pc := 11) g 1 dJ7_copyOfRange_39247_11 rfl ?_
    refine j_iload_n (pc := 12) g 2 dJ7_copyOfRange_39247_12 rfl ?_
    refine j_callPS (pc := 13) (na := 3) (As := [.ref da, .int 0, .int (nI n)]) (rest := []) g (z_copyRB e hM hf) q_t_J7_copyOfRangeByte_39247 q_c_J7_copyOfRangeByte_39247 q_l_J7_339 q_n_J7 (by decide +kernel) rfl ⟨Nat.le_of_ble_eq_true rfl, Nat.le_of_ble_eq_true rfl⟩ ⟨Nat.le_of_ble_eq_true rfl, Nat.le_of_ble_eq_true rfl⟩ (Nat.le_of_ble_eq_true rfl) (.refl _) dJ7_copyOfRange_39247_13 rfl ?_
    rintro r w' ⟨q, f', rfl, rfl, hk⟩
    exact hE _ _ _ _ _ dJ7_copyOfRange_39247_16 (.refl _) ⟨q, f', rfl, rfl, hk⟩
set_option maxRecDepth 100000 in
set_option maxHeartbeats 4000000 in
theorem z_strInit2 (h0 : zE aa E) (hn : n ≤ M) (hM : M ≤ 34) (hf : sb_Fit f) : gx_CP D t E l yJ0_init_db425 cJ0_init_db425 5 none 3 120 1 34 [.ref a, .ref b, .null] (sbB t b da ml n M f ((a, .inr (0, [.null, .int 0, .int 0, .int 0])) :: rs)) (fun r w' => r = none ∧ ∃ (q : Nat) (f' : Nat → Int32), w' = sbS t a q n f' rs ∧ ∀ j, j < n → f' j = f j) := by
  refine gx_intro_pn (by decide) (Nat.le_of_ble_eq_true rfl) rfl (fun J gi hE => ?_)
  have g := gi.g
  refine j_aload_n (pc := 0) g 0 dJ0_init_db425_0 rfl ?_
  refine j_obj (pc := 1) g q_l_J0_1 q_i_obj q_c_obj (Nat.le_of_ble_eq_true rfl) (Nat.le_of_ble_eq_true rfl) dJ0_init_db425_1 ?_
  refine j_aload_n (pc := 4) g 1 dJ0_init_db425_4 rfl ?_
  refine j_callPU (pc := 5) (na := 0) (As := []) (rest := []) g (qc := (RJ4, TJ4, 4)) yJ5_getValue_6d5f1 z_getValue (ci := 10) (q0 := 0) rfl rfl q_i_J5_getValue_6d5f1 q_i_J5_getValue_6d5f1 q_c_J5_getValue_6d5f1 q_m_J5_getValue_6d5f1 (fun s args A hts _ => hts _ q_z_J5_getValue_6d5f1) q_c_J5_getValue_6d5f1 q_l_J0_552 q_n_J5 (by decide +kernel) rfl ⟨Nat.le_of_ble_eq_true rfl, Nat.le_of_ble_eq_true rfl⟩ ⟨Nat.zero_le _, Nat.zero_le _⟩ (Nat.le_of_ble_eq_true rfl) (.refl _) dJ0_init_db425_5 rfl ?_
  rintro r w' ⟨rfl, rfl⟩
  refine j_astore_n (i := 3) (L' := [(3, .ref da), (0, .ref a), (1, .ref b), (2, .null)]) (pc := 8) g dJ0_init_db425_8 rfl (Nat.le_of_ble_eq_true rfl) rfl ?_
  refine j_aload_n (pc := 9) g 2 dJ0_init_db425_9 rfl ?_
  refine j_callPU (pc := 10) (na := 0) (As := []) (rest := []) g (qc := (RJ4, TJ4, 4)) yJ5_length_8abf5 z_len4 (ci := 10) (q0 := 0) rfl rfl q_i_J4_length_8abf5 q_i_J5_length_8abf5 q_c_J5_length_8abf5 q_m_J5_length_8abf5 (fun s args A hts _ => hts _ q_z_J5_length_8abf5) q_c_J4_length_8abf5 q_l_J0_549 q_n_J4 (by decide +kernel) rfl ⟨Nat.le_of_ble_eq_true rfl, Nat.le_of_ble_eq_true rfl⟩ ⟨Nat.zero_le _, Nat.zero_le _⟩ (Nat.le_of_ble_eq_true rfl) (.refl _) dJ0_init_db425_10 rfl ?_
  rintro r w' ⟨rfl, rfl⟩
  refine j_istore (i := 4) (L' := [(4, .int (nI n)), (3, .ref da), (0, .ref a), (1, .ref b), (2, .null)]) (pc := 13) g dJ0_init_db425_13 (Nat.le_of_ble_eq_true rfl) rfl ?_
  refine j_aload_n (pc := 15) g 3 dJ0_init_db425_15 rfl ?_
  refine j_callPU (pc := 16) (na := 0) (As := []) (rest := []) g (qc := (RJ4, TJ4, 4)) yJ5_isLatin1_aae02 (z_isLatin1 h0) (ci := 10) (q0 := 0) rfl rfl q_i_J5_isLatin1_aae02 q_i_J5_isLatin1_aae02 q_c_J5_isLatin1_aae02 q_m_J5_isLatin1_aae02 (fun s args A hts _ => hts _ q_z_J5_isLatin1_aae02) q_c_J5_isLatin1_aae02 q_l_J0_1047 q_n_J5 (by decide +kernel) rfl ⟨Nat.le_of_ble_eq_true rfl, Nat.le_of_ble_eq_true rfl⟩ ⟨Nat.zero_le _, Nat.zero_le _⟩ (Nat.le_of_ble_eq_true rfl) (.refl _) dJ0_init_db425_16 rfl ?_
  rintro r w' ⟨rfl, rfl⟩
  refine j_if_eq (tgt := 41) (pc := 19) g dJ0_init_db425_19 (by decide) (fun h => absurd h (by decide)) (fun _ => ?_)
  refine j_aload_n (pc := 22) g 2 dJ0_init_db425_22 rfl ?_
  refine j_iconst (v := 0) (pc := 23) g dJ0_init_db425_23 (by decide) ?_
  refine j_putF (pc := 24) gi in_J0 2 rfl (ci := 0) rfl 1 (by decide) q_f_J0_15 rfl tyJ0 tyJ0_ok nmJ0 rfl rfl (ty := .byte) (tyJ0_ok 1 (by decide)) rfl rfl (Nat.le_of_ble_eq_true rfl) rfl dJ0_init_db425_24 ?_
  refine j_aload_n (pc := 27) g 2 dJ0_init_db425_27 rfl ?_
  refine j_aload_n (pc := 28) g 1 dJ0_init_db425_28 rfl ?_
  refine j_iconst (v := 0) (pc := 29) g dJ0_init_db425_29 (by decide) ?_
  refine j_iload (pc := 30) g 0 dJ0_init_db425_30 rfl ?_
  refine j_callPS (pc := 32) (na := 3) (As := [.ref da, .int 0, .int (nI n)]) (rest := [.ref a]) g (z_copyR (rs := (b, .inr (10, [.ref da, .int 0, .int ml, .int (nI n)])) :: (a, .inr (0, [.null, .int 0, .int 0, .int 0])) :: rs) h0 hn hM hf) q_t_J7_copyOfRange_39247 q_c_J7_copyOfRange_39247 q_l_J0_54 q_n_J7 (by decide +kernel) rfl ⟨Nat.le_of_ble_eq_true rfl, Nat.le_of_ble_eq_true rfl⟩ ⟨Nat.le_of_ble_eq_true rfl, Nat.le_of_ble_eq_true rfl⟩ (Nat.le_of_ble_eq_true rfl) (.swap _ _ _) dJ0_init_db425_32 rfl ?_
  rintro r w' ⟨q, f', rfl, rfl, hk⟩
  refine j_putF (pc := 35) gi in_J0 3 rfl (ci := 0) rfl 0 (by decide) q_f_J0_9 rfl tyJ0 tyJ0_ok nmJ0 rfl rfl (ty := .array .byte) (tyJ0_ok 0 (by decide)) rfl rfl (Nat.le_of_ble_eq_true rfl) rfl dJ0_init_db425_35 ?_
  refine j_goto (tgt := 97) (pc := 38) g dJ0_init_db425_38 (by decide) ?_
  refine j_dropw (w' := (q, .inl (t 5, n, .inl f')) :: (a, .inr (0, [.ref q, .int 0, .int 0, .int 0])) :: rs) g (List.Sublist.cons_cons _ (List.Sublist.cons _ (List.Sublist.cons _ (List.Sublist.refl _)))) ?_
  exact hE _ _ _ _ dJ0_init_db425_97 (.swap _ _ _) ⟨rfl, q, f', rfl, hk⟩
set_option maxRecDepth 100000 in
set_option maxHeartbeats 4000000 in
theorem z_strInit1 (h0 : zE aa E) (hn : n ≤ M) (hM : M ≤ 34) (hf : sb_Fit f) : gx_CP D t E l yJ0_init_81219 cJ0_init_81219 2 none 4 150 1 34 [.ref a, .ref b] (sbB t b da ml n M f ((a, .inr (0, [.null, .int 0, .int 0, .int 0])) :: rs)) (fun r w' => r = none ∧ ∃ (q : Nat) (f' : Nat → Int32), w' = sbS t a q n f' rs ∧ ∀ j, j < n → f' j = f j) := by
  refine gx_intro_pn (by decide) (Nat.le_of_ble_eq_true rfl) rfl (fun J gi hE => ?_)
  have g := gi.g
  refine j_aload_n (pc := 0) g 0 dJ0_init_81219_0 rfl ?_
  refine j_aload_n (pc := 1) g 1 dJ0_init_81219_1 rfl ?_
  refine j_nul (pc := 2) g dJ0_init_81219_2 ?_
  refine j_callPI (pc := 3) (na := 2) (As := [.ref b, .null]) (rest := []) g (z_strInit2 h0 hn hM hf) rfl q_i_J0_init_db425 q_c_J0_init_db425 q_l_J0_489 q_n_J0 (by decide +kernel) rfl ⟨Nat.le_of_ble_eq_true rfl, Nat.le_of_ble_eq_true rfl⟩ ⟨Nat.le_of_ble_eq_true rfl, Nat.le_of_ble_eq_true rfl⟩ (Nat.le_of_ble_eq_true rfl) (.refl _) dJ0_init_81219_3 rfl ?_
  rintro r w' ⟨rfl, hw⟩
  exact hE _ _ _ _ dJ0_init_81219_6 (.refl _) ⟨rfl, hw⟩
set_option maxRecDepth 100000 in
set_option maxHeartbeats 4000000 in
theorem z_toString (h0 : zE aa E) (hn : n ≤ M) (hM : M ≤ 34) (hf : sb_Fit f) : gx_CP D t E l yJ4_toString_0e30d cJ4_toString_0e30d 1 (some (.object "java/lang/String")) 5 175 2 38 [.ref b] (sbB t b da ml n M f rs) (fun r w' => ∃ (a q : Nat) (f' : Nat → Int32), r = some (.ref a) ∧ w' = sbS t a q n f' rs ∧ ∀ j, j < n → f' j = f j) := by
  refine gx_intro_pa (by decide) (Nat.le_of_ble_eq_true rfl) (Or.inl ⟨_, rfl⟩) (fun J g hE => ?_)
  refine j_new (pc := 0) g in_J0 tyJ0 tyJ0_ok q_k_J4_18 q_in_J0 q_n_J0 (ci := 0) rfl (fs := [.null, .int 0, .int 0, .int 0]) (by decide) (Nat.le_of_ble_eq_true rfl) (Nat.le_of_ble_eq_true rfl) dJ4_toString_0e30d_0 (fun a => ?_)
  refine j_dup (pc := 3) g dJ4_toString_0e30d_3 rfl ?_
  refine j_aload_n (pc := 4) g 0 dJ4_toString_0e30d_4 rfl ?_
  refine j_callPI (pc := 5) (na := 1) (As := [.ref b]) (rest := [.ref a]) g (z_strInit1 h0 hn hM hf) rfl q_i_J0_init_81219 q_c_J0_init_81219 q_l_J4_137 q_n_J0 (by decide +kernel) rfl ⟨Nat.le_of_ble_eq_true rfl, Nat.le_of_ble_eq_true rfl⟩ ⟨Nat.le_of_ble_eq_true rfl, Nat.le_of_ble_eq_true rfl⟩ (Nat.le_of_ble_eq_true rfl) (List.perm_middle (l₁ := [_, _]).symm) dJ4_toString_0e30d_5 rfl ?_
  rintro r w' ⟨rfl, q, f', rfl, hk⟩
  exact hE _ _ _ _ _ dJ4_toString_0e30d_8 (.refl _) ⟨a, q, f', rfl, rfl, hk⟩
end SB8
