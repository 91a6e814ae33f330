section SB4
variable {D : va_G} {t : Nat → ClassId} {aa : gx_AA} {E : gx_E} {l : Launch} {b da : Nat} {ml : Int32} {n M : Nat} {f : Nat → Int32} {rs : va_W} {cs : List Nat}
set_option maxRecDepth 100000 in
set_option maxHeartbeats 4000000 in
theorem z_init5 (h0 : zE aa E) : gx_CP D t E l yJ5_init_d00df cJ5_init_d00df 2 none 1 40 1 16 [.ref b, .int 16] ((b, .inr (10, [.null, .int 0, .int 0, .int 0])) :: rs) (fun r w' => r = none ∧ ∃ da, w' = sbB t b da 0 0 16 (fun _ => 0) rs) := by
  refine gx_intro_pn (by decide) (Nat.le_of_ble_eq_true rfl) rfl (fun J gi hE => ?_)
  have g := gi.g
  refine j_aload_n (pc := 0) g 0 dJ5_init_d00df_0 rfl ?_
  refine j_obj (pc := 1) g q_l_J5_3 q_i_obj q_c_obj (Nat.le_of_ble_eq_true rfl) (Nat.le_of_ble_eq_true rfl) dJ5_init_d00df_1 ?_
  refine j_gets (pc := 4) g h0.cs q_f_J5_18 rfl dJ5_init_d00df_4 ?_
  refine j_if_eq (tgt := 25) (pc := 7) g dJ5_init_d00df_7 (by decide) (fun h => absurd h (by decide)) (fun _ => ?_)
  refine j_aload_n (pc := 10) g 0 dJ5_init_d00df_10 rfl ?_
  refine j_iload_n (pc := 11) g 1 dJ5_init_d00df_11 rfl ?_
  refine j_newb (pc := 12) (N := 16) g q_a_byte (by decide) (by decide) (by decide) (Nat.le_of_ble_eq_true rfl) (Nat.le_of_ble_eq_true rfl) dJ5_init_d00df_12 (fun da => ?_)
  refine j_put (pc := 14) g in_J4 1 rfl (ci := 10) rfl 0 (by decide) q_f_J5_15 rfl tyJ4 tyJ4_ok nmJ4 rfl (ty := .array .byte) (tyJ4_ok 0 (by decide)) rfl rfl (Nat.le_of_ble_eq_true rfl) rfl dJ5_init_d00df_14 ?_
  refine j_aload_n (pc := 17) g 0 dJ5_init_d00df_17 rfl ?_
  refine j_iconst (v := 0) (pc := 18) g dJ5_init_d00df_18 (by decide) ?_
  refine j_put (pc := 19) g in_J4 1 rfl (ci := 10) rfl 1 (by decide) q_f_J5_22 rfl tyJ4 tyJ4_ok nmJ4 rfl (ty := .byte) (tyJ4_ok 1 (by decide)) rfl rfl (Nat.le_of_ble_eq_true rfl) rfl dJ5_init_d00df_19 ?_
  refine j_goto (tgt := 38) (pc := 22) g dJ5_init_d00df_22 (by decide) ?_
  exact hE _ _ _ _ dJ5_init_d00df_38 (.swap _ _ _) ⟨rfl, da, rfl⟩
set_option maxRecDepth 100000 in
set_option maxHeartbeats 4000000 in
theorem z_init4 (h0 : zE aa E) : gx_CP D t E l yJ4_init_da8c8 cJ4_init_da8c8 1 none 2 65 1 16 [.ref b] ((b, .inr (10, [.null, .int 0, .int 0, .int 0])) :: rs) (fun r w' => r = none ∧ ∃ da, w' = sbB t b da 0 0 16 (fun _ => 0) rs) := by
  refine gx_intro_pn (by decide) (Nat.le_of_ble_eq_true rfl) rfl (fun J gi hE => ?_)
  have g := gi.g
  refine j_aload_n (pc := 0) g 0 dJ4_init_da8c8_0 rfl ?_
  refine j_bipush (v := 16) (pc := 1) g dJ4_init_da8c8_1 (by decide) ?_
  refine j_callPI (pc := 3) (na := 1) (As := [.int 16]) (rest := []) g (z_init5 h0) rfl q_i_J5_init_d00df q_c_J5_init_d00df q_l_J4_1 q_n_J5 (by decide +kernel) rfl ⟨Nat.le_of_ble_eq_true rfl, Nat.le_of_ble_eq_true rfl⟩ ⟨Nat.le_of_ble_eq_true rfl, Nat.le_of_ble_eq_true rfl⟩ (Nat.le_of_ble_eq_true rfl) (.refl _) dJ4_init_da8c8_3 rfl ?_
  rintro r w' ⟨rfl, hw⟩
  exact hE _ _ _ _ dJ4_init_da8c8_6 (.refl _) ⟨rfl, hw⟩
end SB4
section SB5
variable {D : va_G} {t : Nat → ClassId} {aa : gx_AA} {l : Launch} {b da : Nat} {ml : Int32} {n M : Nat} {f : Nat → Int32} {rs : va_W} {cs : List Nat} {a d : Nat} {ds : List Nat}
theorem zES : zE aa (gx_ES aa a d ds) := fun A U H h => h.1
def zcp (ds : List Nat) (f : Nat → Int32) (n : Nat) : Nat → Int32 := va_cpy (fun j => nI (ds.getD j 0)) f 0 n ds.length
set_option maxRecDepth 100000 in
set_option maxHeartbeats 4000000 in
theorem z_getBytes (hds : ∀ c ∈ ds, c < 128) (hn : n + ds.length ≤ M) (hM : M ≤ 34) : gx_CP D t (gx_ES aa a d ds) l yJ0_getBytes_840e7 cJ0_getBytes_840e7 4 none 1 60 0 0 [.ref a, .ref da, .int (nI n), .int 0] ((da, .inl (t 5, M, .inl f)) :: rs) (fun r w' => r = none ∧ w' = (da, .inl (t 5, M, .inl (zcp ds f n))) :: rs) := by
  refine gx_intro_pv (by decide) (Nat.le_of_ble_eq_true rfl) (fun J g hE => ?_)
  refine j_aload_n (pc := 0) g 0 dJ0_getBytes_840e7_0 rfl ?_
  refine j_callVEi (pc := 1) (na := 0) (As := []) (rest := []) g ce_coder es_so q_i_J0_coder_7d493 q_s_J0_coder_7d493 q_c_J0_coder_7d493 q_l_J0_335 q_n_J0 (by decide +kernel) rfl ⟨Nat.le_of_ble_eq_true rfl, Nat.le_of_ble_eq_true rfl⟩ ⟨Nat.zero_le _, Nat.zero_le _⟩ (Nat.le_of_ble_eq_true rfl) (.refl _) (.refl _) dJ0_getBytes_840e7_1 ?_ rfl
  refine j_iload_n (pc := 4) g 3 dJ0_getBytes_840e7_4 rfl ?_
  refine j_icmp_ne (tgt := 28) (pc := 5) g dJ0_getBytes_840e7_5 (by decide) (fun h => absurd rfl h) (fun _ => ?_)
  refine j_aload_n (pc := 8) g 0 dJ0_getBytes_840e7_8 rfl ?_
  refine j_getO (pc := 9) g es_sv q_f_J0_9 rfl dJ0_getBytes_840e7_9 ?_
  refine j_iconst (v := 0) (pc := 12) g dJ0_getBytes_840e7_12 (by decide) ?_
  refine j_aload_n (pc := 13) g 1 dJ0_getBytes_840e7_13 rfl ?_
  refine j_iload_n (pc := 14) g 2 dJ0_getBytes_840e7_14 rfl ?_
  refine j_iload_n (pc := 15) g 3 dJ0_getBytes_840e7_15 rfl ?_
  refine j_ishl (pc := 16) g dJ0_getBytes_840e7_16 ?_
  rw [z_shl n (by omega)]
  refine j_aload_n (pc := 17) g 0 dJ0_getBytes_840e7_17 rfl ?_
  refine j_getO (pc := 18) g es_sv q_f_J0_9 rfl dJ0_getBytes_840e7_18 ?_
  refine j_tlen (pc := 21) g es_st dJ0_getBytes_840e7_21 ?_
  have e1 : (Int32.ofNat ds.length).toNatClampNeg = ds.length := nI_clamp (by omega)
  have e2 : (nI n).toNatClampNeg = n := nI_clamp (by omega)
  refine j_copyt (pc := 22) g q_l_J0_212 q_v_copy q_t_copy q_n_J10 (f := fun j => nI (ds.getD j 0)) es_st 0 rfl (by decide) (nI_pos (by omega)) (nI_pos (n := ds.length) (by omega)) (by rw [e1]; show 0 + _ ≤ _; omega) (by rw [e1, e2]; exact hn) (fun i _ => z_b3 _ (es_get hds _)) (Nat.le_of_ble_eq_true rfl) (Nat.le_of_ble_eq_true rfl) rfl dJ0_getBytes_840e7_22 ?_
  rw [e1, e2]
  refine j_goto (tgt := 43) (pc := 25) g dJ0_getBytes_840e7_25 (by decide) ?_
  exact hE _ _ _ _ dJ0_getBytes_840e7_43 (.refl _) ⟨rfl, rfl⟩
set_option maxRecDepth 100000 in
set_option maxHeartbeats 4000000 in
theorem z_inflateIf : gx_CP D t (gx_ES aa a d ds) l yJ5_inflateIfNeededFor_a7421 cJ5_inflateIfNeededFor_a7421 2 none 1 60 0 0 [.ref b, .ref a] (sbB t b da ml n M f rs) (fun r w' => r = none ∧ w' = sbB t b da ml n M f rs) := by
  refine gx_intro_pv (by decide) (Nat.le_of_ble_eq_true rfl) (fun J g hE => ?_)
  refine j_gets (pc := 0) g zES.cs q_f_J5_18 rfl dJ5_inflateIfNeededFor_a7421_0 ?_
  refine j_if_eq (tgt := 21) (pc := 3) g dJ5_inflateIfNeededFor_a7421_3 (by decide) (fun h => absurd h (by decide)) (fun _ => ?_)
  refine j_aload_n (pc := 6) g 0 dJ5_inflateIfNeededFor_a7421_6 rfl ?_
  refine j_get (pc := 7) g in_J4 0 rfl (ci := 10) rfl 1 (by decide) q_f_J5_22 rfl rfl dJ5_inflateIfNeededFor_a7421_7 ?_
  refine j_aload_n (pc := 10) g 1 dJ5_inflateIfNeededFor_a7421_10 rfl ?_
  refine j_callVEi (pc := 11) (na := 0) (As := []) (rest := [.int 0]) g ce_coder es_so q_i_J0_coder_7d493 q_s_J0_coder_7d493 q_c_J0_coder_7d493 q_l_J5_40 q_n_J0 (by decide +kernel) rfl ⟨Nat.le_of_ble_eq_true rfl, Nat.le_of_ble_eq_true rfl⟩ ⟨Nat.zero_le _, Nat.zero_le _⟩ (Nat.le_of_ble_eq_true rfl) (.refl _) (.refl _) dJ5_inflateIfNeededFor_a7421_11 ?_ rfl
  refine j_icmp_eq (tgt := 21) (pc := 14) g dJ5_inflateIfNeededFor_a7421_14 (by decide) (fun _ => ?_) (fun h => absurd rfl h)
  exact hE _ _ _ _ dJ5_inflateIfNeededFor_a7421_21 (.refl _) ⟨rfl, rfl⟩
set_option maxRecDepth 100000 in
set_option maxHeartbeats 4000000 in
theorem z_putStringAt (hds : ∀ c ∈ ds, c < 128) (hn : n + ds.length ≤ M) (hM : M ≤ 34) : gx_CP D t (gx_ES aa a d ds) l yJ5_putStringAt_47b60 cJ5_putStringAt_47b60 3 none 2 90 0 0 [.ref b, .int (nI n), .ref a] (sbB t b da ml n M f rs) (fun r w' => r = none ∧ w' = sbB t b da ml n M (zcp ds f n) rs) := by
  refine gx_intro_pv (by decide) (Nat.le_of_ble_eq_true rfl) (fun J g hE => ?_)
  refine j_aload_n (pc := 0) g 0 dJ5_putStringAt_47b60_0 rfl ?_
  refine j_aload_n (pc := 1) g 2 dJ5_putStringAt_47b60_1 rfl ?_
  refine j_callPU (pc := 2) (na := 1) (As := [.ref a]) (rest := []) g (qc := (RJ4, TJ4, 4)) yJ5_inflateIfNeededFor_a7421 z_inflateIf (ci := 10) (q0 := 0) rfl rfl q_i_J5_inflateIfNeededFor_a7421 q_i_J5_inflateIfNeededFor_a7421 q_c_J5_inflateIfNeededFor_a7421 q_m_J5_inflateIfNeededFor_a7421 (z_priv zES q_p_J5_inflateIfNeededFor_a7421 (by decide) q_m_J5_inflateIfNeededFor_a7421 q_i_J5_inflateIfNeededFor_a7421) q_c_J5_inflateIfNeededFor_a7421 q_l_J5_397 q_n_J5 (by decide +kernel) rfl ⟨Nat.le_of_ble_eq_true rfl, Nat.le_of_ble_eq_true rfl⟩ ⟨Nat.zero_le _, Nat.zero_le _⟩ (Nat.le_of_ble_eq_true rfl) (.refl _) dJ5_putStringAt_47b60_2 rfl ?_
  rintro r w' ⟨rfl, rfl⟩
  refine j_aload_n (pc := 5) g 2 dJ5_putStringAt_47b60_5 rfl ?_
  refine j_aload_n (pc := 6) g 0 dJ5_putStringAt_47b60_6 rfl ?_
  refine j_get (pc := 7) g in_J4 0 rfl (ci := 10) rfl 0 (by decide) q_f_J5_15 rfl rfl dJ5_putStringAt_47b60_7 ?_
  refine j_iload_n (pc := 10) g 1 dJ5_putStringAt_47b60_10 rfl ?_
  refine j_aload_n (pc := 11) g 0 dJ5_putStringAt_47b60_11 rfl ?_
  refine j_get (pc := 12) g in_J4 0 rfl (ci := 10) rfl 1 (by decide) q_f_J5_22 rfl rfl dJ5_putStringAt_47b60_12 ?_
  refine j_callPE (pc := 15) (na := 3) (As := [.ref da, .int (nI n), .int 0]) (rest := []) g (z_getBytes (rs := (b, .inr (10, [.ref da, .int 0, .int ml, .int (nI n)])) :: rs) hds hn hM) es_so q_i_J0_getBytes_840e7 q_s_J0_getBytes_840e7 q_c_J0_getBytes_840e7 q_l_J5_399 q_n_J0 (by decide +kernel) rfl ⟨Nat.le_of_ble_eq_true rfl, Nat.le_of_ble_eq_true rfl⟩ ⟨Nat.zero_le _, Nat.zero_le _⟩ (Nat.le_of_ble_eq_true rfl) (.swap _ _ _) dJ5_putStringAt_47b60_15 rfl ?_
  rintro r w' ⟨rfl, rfl⟩
  exact hE _ _ _ _ dJ5_putStringAt_47b60_18 (.swap _ _ _) ⟨rfl, rfl⟩
theorem z_TS {f f' : Nat → Int32} {M : Nat} (h : sbT cs f) (hl : cs.length ≤ M) (hk : ∀ j, j < M → f' j = f j) : sbT (cs ++ ds) (zcp ds f' cs.length) := by
  intro j hj
  rw [List.length_append] at hj
  unfold zcp va_cpy
  by_cases e : cs.length ≤ j
  · rw [if_pos (by omega)]
    show nI (ds.getD (0 + (j - cs.length)) 0) = _
    rw [Nat.zero_add, List.getD_eq_getElem?_getD, List.getD_eq_getElem?_getD, List.getElem?_append_right e]
  · rw [if_neg (by omega), hk j (by omega), h j (by omega), List.getD_eq_getElem?_getD, List.getD_eq_getElem?_getD, List.getElem?_append_left (by omega)]
theorem z_FS (hds : ∀ c ∈ ds, c < 128) {f : Nat → Int32} (hf : sb_Fit f) : sb_Fit (zcp ds f n) := sb_fitC (fun j => z_b3 _ (es_get hds j)) hf
set_option maxRecDepth 100000 in
set_option maxHeartbeats 4000000 in
theorem z_appS5 (hds : ∀ c ∈ ds, c < 128) (hM : M = 16 ∨ M = 34) (hl : cs.length ≤ M) (hn : cs.length + ds.length ≤ 34) (hf : sb_Fit f) (hT : sbT cs f) : gx_CP D t (gx_ES aa a d ds) l yJ5_append_cf1ce cJ5_append_cf1ce 3 (some (.object "java/lang/AbstractStringBuilder")) 4 120 1 34 [.ref b, .ref a] (sbB t b da ml cs.length M f rs) (fun r w' => r = some (.ref b) ∧ zOut t b (cs ++ ds) rs w') := by
  refine gx_intro_pa (by decide) (Nat.le_of_ble_eq_true rfl) (Or.inl ⟨_, rfl⟩) (fun J g hE => ?_)
  refine j_aload_n (pc := 0) g 1 dJ5_append_cf1ce_0 rfl ?_
  refine j_ifnonnull (tgt := 9) (pc := 1) g dJ5_append_cf1ce_1 (by decide) ?_
  refine j_aload_n (pc := 9) g 1 dJ5_append_cf1ce_9 rfl ?_
  refine j_callVEi (pc := 10) (na := 0) (As := []) (rest := []) g ce_strlen es_so q_i_J0_length_8abf5 q_s_J0_length_8abf5 q_c_J0_length_8abf5 q_l_J5_32 q_n_J0 (by decide +kernel) rfl ⟨Nat.le_of_ble_eq_true rfl, Nat.le_of_ble_eq_true rfl⟩ ⟨Nat.zero_le _, Nat.zero_le _⟩ (Nat.le_of_ble_eq_true rfl) (.refl _) (.refl _) dJ5_append_cf1ce_10 ?_ rfl
  refine j_istore_n (i := 2) (L' := [(2, .int (nI ds.length)), (0, .ref b), (1, .ref a)]) (pc := 13) g dJ5_append_cf1ce_13 rfl (Nat.le_of_ble_eq_true rfl) rfl ?_
  refine j_aload_n (pc := 14) g 1 dJ5_append_cf1ce_14 rfl ?_
  refine j_aload_n (pc := 15) g 1 dJ5_append_cf1ce_15 rfl ?_
  refine j_get (pc := 16) g in_J4 0 rfl (ci := 10) rfl 3 (by decide) q_f_J5_79 rfl rfl dJ5_append_cf1ce_16 ?_
  refine j_iload_n (pc := 19) g 0 dJ5_append_cf1ce_19 rfl ?_
  refine j_iadd (pc := 20) g dJ5_append_cf1ce_20 ?_
  rw [nI_add]
  refine j_callPU (pc := 21) (na := 1) (As := [.int (nI (cs.length + ds.length))]) (rest := []) g (qc := (RJ4, TJ4, 4)) yJ5_ensureCapacityInternal_d00df (z_ensure zES hn hM hf) (ci := 10) (q0 := 0) rfl rfl q_i_J5_ensureCapacityInternal_d00df q_i_J5_ensureCapacityInternal_d00df q_c_J5_ensureCapacityInternal_d00df q_m_J5_ensureCapacityInternal_d00df (z_priv zES q_p_J5_ensureCapacityInternal_d00df (by decide) q_m_J5_ensureCapacityInternal_d00df q_i_J5_ensureCapacityInternal_d00df) q_c_J5_ensureCapacityInternal_d00df q_l_J5_100 q_n_J5 (by decide +kernel) rfl ⟨Nat.le_of_ble_eq_true rfl, Nat.le_of_ble_eq_true rfl⟩ ⟨Nat.le_of_ble_eq_true rfl, Nat.le_of_ble_eq_true rfl⟩ (Nat.le_of_ble_eq_true rfl) (.refl _) dJ5_append_cf1ce_21 rfl ?_
  rintro r w' ⟨rfl, da', M', f', rfl, hM', hq', hMM, hf', hk⟩
  refine j_aload_n (pc := 24) g 1 dJ5_append_cf1ce_24 rfl ?_
  refine j_aload_n (pc := 25) g 1 dJ5_append_cf1ce_25 rfl ?_
  refine j_get (pc := 26) g in_J4 0 rfl (ci := 10) rfl 3 (by decide) q_f_J5_79 rfl rfl dJ5_append_cf1ce_26 ?_
  refine j_aload_n (pc := 29) g 2 dJ5_append_cf1ce_29 rfl ?_
  refine j_callPU (pc := 30) (na := 2) (As := [.int (nI cs.length), .ref a]) (rest := []) g (qc := (RJ4, TJ4, 4)) yJ5_putStringAt_47b60 (z_putStringAt hds hq' (by omega)) (ci := 10) (q0 := 0) rfl rfl q_i_J5_putStringAt_47b60 q_i_J5_putStringAt_47b60 q_c_J5_putStringAt_47b60 q_m_J5_putStringAt_47b60 (z_priv zES q_p_J5_putStringAt_47b60 (by decide) q_m_J5_putStringAt_47b60 q_i_J5_putStringAt_47b60) q_c_J5_putStringAt_47b60 q_l_J5_208 q_n_J5 (by decide +kernel) rfl ⟨Nat.le_of_ble_eq_true rfl, Nat.le_of_ble_eq_true rfl⟩ ⟨Nat.le_of_ble_eq_true rfl, Nat.le_of_ble_eq_true rfl⟩ (Nat.le_of_ble_eq_true rfl) (.refl _) dJ5_append_cf1ce_30 rfl ?_
  rintro r w' ⟨rfl, rfl⟩
  refine j_aload_n (pc := 33) g 1 dJ5_append_cf1ce_33 rfl ?_
  refine j_dup (pc := 34) g dJ5_append_cf1ce_34 rfl ?_
  refine j_get (pc := 35) g in_J4 0 rfl (ci := 10) rfl 3 (by decide) q_f_J5_79 rfl rfl dJ5_append_cf1ce_35 ?_
  refine j_iload_n (pc := 38) g 0 dJ5_append_cf1ce_38 rfl ?_
  refine j_iadd (pc := 39) g dJ5_append_cf1ce_39 ?_
  rw [nI_add]
  refine j_put (pc := 40) g in_J4 0 rfl (ci := 10) rfl 3 (by decide) q_f_J5_79 rfl tyJ4 tyJ4_ok nmJ4 rfl (ty := .int) (tyJ4_ok 3 (by decide)) rfl rfl (Nat.le_of_ble_eq_true rfl) rfl dJ5_append_cf1ce_40 ?_
  refine j_aload_n (pc := 43) g 1 dJ5_append_cf1ce_43 rfl ?_
  have e : (cs ++ ds).length = cs.length + ds.length := List.length_append
  exact hE _ _ _ _ _ dJ5_append_cf1ce_44 (.refl _) ⟨rfl, da', ml, M', _, by rw [e]; rfl, hM', by rw [e]; exact hq', z_FS hds hf', z_TS hT hl hk⟩
set_option maxRecDepth 100000 in
set_option maxHeartbeats 4000000 in
theorem z_appS (hds : ∀ c ∈ ds, c < 128) (hM : M = 16 ∨ M = 34) (hl : cs.length ≤ M) (hn : cs.length + ds.length ≤ 34) (hf : sb_Fit f) (hT : sbT cs f) : gx_CP D t (gx_ES aa a d ds) l yJ4_append_15ec4 cJ4_append_15ec4 2 (some (.object "java/lang/StringBuilder")) 5 150 1 34 [.ref b, .ref a] (sbB t b da ml cs.length M f rs) (fun r w' => r = some (.ref b) ∧ zOut t b (cs ++ ds) rs w') := by
  refine gx_intro_pa (by decide) (Nat.le_of_ble_eq_true rfl) (Or.inl ⟨_, rfl⟩) (fun J g hE => ?_)
  refine j_aload_n (pc := 0) g 0 dJ4_append_15ec4_0 rfl ?_
  refine j_aload_n (pc := 1) g 1 dJ4_append_15ec4_1 rfl ?_
  refine j_callPR (pc := 2) (na := 1) (As := [.ref a]) (rest := []) g (z_appS5 hds hM hl hn hf hT) (qc := (RJ4, TJ4, 4)) (ci := 10) (q0 := 0) rfl rfl q_in_J4 q_i_J5_append_cf1ce q_m_J5_append_cf1ce q_su_J4 (by decide) q_c_J5_append_cf1ce q_l_J4_29 q_n_J5 (by decide +kernel) rfl ⟨Nat.le_of_ble_eq_true rfl, Nat.le_of_ble_eq_true rfl⟩ ⟨Nat.le_of_ble_eq_true rfl, Nat.le_of_ble_eq_true rfl⟩ (Nat.le_of_ble_eq_true rfl) (.refl _) dJ4_append_15ec4_2 rfl ?_
  rintro r w' ⟨rfl, hO⟩
  refine j_pop (pc := 5) g dJ4_append_15ec4_5 rfl ?_
  refine j_aload_n (pc := 6) g 0 dJ4_append_15ec4_6 rfl ?_
  exact hE _ _ _ _ _ dJ4_append_15ec4_7 (.refl _) ⟨rfl, hO⟩
end SB5
