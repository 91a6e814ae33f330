theorem z_T1 {cs : List Nat} {c : Nat} {f f' : Nat → Int32} {M : Nat} (h : sbT cs f) (hl : cs.length ≤ M) (hk : ∀ j, j < M → f' j = f j) : sbT (cs ++ [c]) (upd f' cs.length (nI c)) := by
  intro j hj
  rw [List.length_append, List.length_singleton] at hj
  by_cases e : j = cs.length
  · subst e
    rw [pk_us, List.getD_eq_getElem?_getD, List.getElem?_append_right (Nat.le_refl _), Nat.sub_self]; rfl
  · have hj2 : j < cs.length := by omega
    rw [pk_un e, hk j (by omega), h j hj2, List.getD_eq_getElem?_getD, List.getD_eq_getElem?_getD, List.getElem?_append_left hj2]
theorem z_b1 : ∀ c, c < 128 → (nI c).toInt8.toInt32 = nI c := by decide
theorem z_b2 : ∀ c, c < 128 → vp_nar .byte (nI c) = nI c := by decide
theorem z_b3 : ∀ c, c < 128 → fits .byte (.int (nI c)) = true := by decide
section SB3
variable {D : va_G} {t : Nat → ClassId} {aa : gx_AA} {E : gx_E} {l : Launch} {b da : Nat} {ml : Int32} {n M : Nat} {f : Nat → Int32} {rs : va_W} {cs : List Nat}
set_option maxRecDepth 100000 in
set_option maxHeartbeats 4000000 in
theorem z_appC5 (h0 : zE aa E) {c : Nat} (hc : c < 128) (hM : M = 16 ∨ M = 34) (hl : cs.length ≤ M) (hn : cs.length + 1 ≤ 34) (hf : sb_Fit f) (hT : sbT cs f) : gx_CP D t E l yJ5_append_3fe6f cJ5_append_3fe6f 2 (some (.object "java/lang/AbstractStringBuilder")) 4 120 1 34 [.ref b, .int (nI c)] (sbB t b da ml cs.length M f rs) (fun r w' => r = some (.ref b) ∧ zOut t b (cs ++ [c]) rs w') := by
  refine gx_intro_pa (by decide) (Nat.le_of_ble_eq_true rfl) (Or.inl ⟨_, rfl⟩) (fun J g hE => ?_)
  refine j_aload_n (pc := 0) g 0 dJ5_append_3fe6f_0 rfl ?_
  refine j_aload_n (pc := 1) g 0 dJ5_append_3fe6f_1 rfl ?_
  refine j_get (pc := 2) g in_J4 0 rfl (ci := 10) rfl 3 (by decide) q_f_J5_79 rfl rfl dJ5_append_3fe6f_2 ?_
  refine j_iconst (v := 1) (pc := 5) g dJ5_append_3fe6f_5 (by decide) ?_
  refine j_iadd (pc := 6) g dJ5_append_3fe6f_6 ?_
  rw [nI_1]
  refine j_callPU (pc := 7) (na := 1) (As := [.int (nI (cs.length + 1))]) (rest := []) g (qc := (RJ4, TJ4, 4)) yJ5_ensureCapacityInternal_d00df (z_ensure h0 hn hM hf) (ci := 10) (q0 := 0) rfl rfl q_i_J5_ensureCapacityInternal_d00df q_i_J5_ensureCapacityInternal_d00df q_c_J5_ensureCapacityInternal_d00df q_m_J5_ensureCapacityInternal_d00df (z_priv h0 q_p_J5_ensureCapacityInternal_d00df (by decide) q_m_J5_ensureCapacityInternal_d00df q_i_J5_ensureCapacityInternal_d00df) q_c_J5_ensureCapacityInternal_d00df q_l_J5_100 q_n_J5 (by decide +kernel) rfl ⟨Nat.le_of_ble_eq_true rfl, Nat.le_of_ble_eq_true rfl⟩ ⟨Nat.le_of_ble_eq_true rfl, Nat.le_of_ble_eq_true rfl⟩ (Nat.le_of_ble_eq_true rfl) (.refl _) dJ5_append_3fe6f_7 rfl ?_
  rintro r w' ⟨rfl, da', M', f', rfl, hM', hq', hMM, hf', hk⟩
  refine j_aload_n (pc := 10) g 0 dJ5_append_3fe6f_10 rfl ?_
  refine j_callPU (pc := 11) (na := 0) (As := []) (rest := []) g (qc := (RJ4, TJ4, 4)) yJ5_isLatin1_aae02 (z_isLatin1 h0) (ci := 10) (q0 := 0) rfl rfl q_i_J5_isLatin1_aae02 q_i_J5_isLatin1_aae02 q_c_J5_isLatin1_aae02 q_m_J5_isLatin1_aae02 (fun s args A hts _ => hts _ q_z_J5_isLatin1_aae02) q_c_J5_isLatin1_aae02 q_l_J5_83 q_n_J5 (by decide +kernel) rfl ⟨Nat.le_of_ble_eq_true rfl, Nat.le_of_ble_eq_true rfl⟩ ⟨Nat.le_of_ble_eq_true rfl, Nat.le_of_ble_eq_true rfl⟩ (Nat.le_of_ble_eq_true rfl) (.refl _) dJ5_append_3fe6f_11 rfl ?_
  rintro r w' ⟨rfl, rfl⟩
  refine j_if_eq (tgt := 45) (pc := 14) g dJ5_append_3fe6f_14 (by decide) (fun h => absurd h (by decide)) (fun _ => ?_)
  refine j_iload_n (pc := 17) g 1 dJ5_append_3fe6f_17 rfl ?_
  refine j_callPS (pc := 18) (na := 1) (As := [.int (nI c)]) (rest := []) g (z_canEncode hc) q_t_J1_canEncode_fc78d q_c_J1_canEncode_fc78d q_l_J5_191 q_n_J1 (by decide +kernel) rfl ⟨Nat.le_of_ble_eq_true rfl, Nat.le_of_ble_eq_true rfl⟩ ⟨Nat.le_of_ble_eq_true rfl, Nat.le_of_ble_eq_true rfl⟩ (Nat.le_of_ble_eq_true rfl) (.refl _) dJ5_append_3fe6f_18 rfl ?_
  rintro r w' ⟨rfl, rfl⟩
  refine j_if_eq (tgt := 45) (pc := 21) g dJ5_append_3fe6f_21 (by decide) (fun h => absurd h (by decide)) (fun _ => ?_)
  refine j_aload_n (pc := 24) g 0 dJ5_append_3fe6f_24 rfl ?_
  refine j_get (pc := 25) g in_J4 0 rfl (ci := 10) rfl 0 (by decide) q_f_J5_15 rfl rfl dJ5_append_3fe6f_25 ?_
  refine j_aload_n (pc := 28) g 0 dJ5_append_3fe6f_28 rfl ?_
  refine j_dup (pc := 29) g dJ5_append_3fe6f_29 rfl ?_
  refine j_get (pc := 30) g in_J4 0 rfl (ci := 10) rfl 3 (by decide) q_f_J5_79 rfl rfl dJ5_append_3fe6f_30 ?_
  refine j_dupx1 (pc := 33) g dJ5_append_3fe6f_33 rfl rfl ?_
  refine j_iconst (v := 1) (pc := 34) g dJ5_append_3fe6f_34 (by decide) ?_
  refine j_iadd (pc := 35) g dJ5_append_3fe6f_35 ?_
  rw [nI_1]
  refine j_put (pc := 36) g in_J4 0 rfl (ci := 10) rfl 3 (by decide) q_f_J5_79 rfl tyJ4 tyJ4_ok nmJ4 rfl (ty := .int) (tyJ4_ok 3 (by decide)) rfl rfl (Nat.le_of_ble_eq_true rfl) rfl dJ5_append_3fe6f_36 ?_
  refine j_iload_n (pc := 39) g 1 dJ5_append_3fe6f_39 rfl ?_
  refine j_i2b (pc := 40) g dJ5_append_3fe6f_40 (z_b1 c hc) ?_
  refine j_bast (pc := 41) g 1 rfl (vp_in_nI (by omega) (by omega)) rfl dJ5_append_3fe6f_41 ?_
  rw [nI_clamp (by omega), z_b2 c hc]
  refine j_goto (tgt := 75) (pc := 42) g dJ5_append_3fe6f_42 (by decide) ?_
  refine j_aload_n (pc := 75) g 0 dJ5_append_3fe6f_75 rfl ?_
  have e : (cs ++ [c]).length = cs.length + 1 := by simp
  exact hE _ _ _ _ _ dJ5_append_3fe6f_76 (.refl _) ⟨rfl, da', ml, M', _, by rw [e]; rfl, hM', by rw [e]; exact hq', sb_fitU hf' (z_b3 c hc), z_T1 hT hl hk⟩
set_option maxRecDepth 100000 in
set_option maxHeartbeats 4000000 in
theorem z_appC (h0 : zE aa E) {c : Nat} (hc : c < 128) (hM : M = 16 ∨ M = 34) (hl : cs.length ≤ M) (hn : cs.length + 1 ≤ 34) (hf : sb_Fit f) (hT : sbT cs f) : gx_CP D t E l yJ4_append_cf468 cJ4_append_cf468 2 (some (.object "java/lang/StringBuilder")) 5 150 1 34 [.ref b, .int (nI c)] (sbB t b da ml cs.length M f rs) (fun r w' => r = some (.ref b) ∧ zOut t b (cs ++ [c]) rs w') := by
  refine gx_intro_pa (by decide) (Nat.le_of_ble_eq_true rfl) (Or.inl ⟨_, rfl⟩) (fun J g hE => ?_)
  refine j_aload_n (pc := 0) g 0 dJ4_append_cf468_0 rfl ?_
  refine j_iload_n (pc := 1) g 1 dJ4_append_cf468_1 rfl ?_
  refine j_callPR (pc := 2) (na := 1) (As := [.int (nI c)]) (rest := []) g (z_appC5 h0 hc hM hl hn hf hT) (qc := (RJ4, TJ4, 4)) (ci := 10) (q0 := 0) rfl rfl q_in_J4 q_i_J5_append_3fe6f q_m_J5_append_3fe6f q_su_J4 (by decide) q_c_J5_append_3fe6f q_l_J4_50 q_n_J5 (by decide +kernel) rfl ⟨Nat.le_of_ble_eq_true rfl, Nat.le_of_ble_eq_true rfl⟩ ⟨Nat.le_of_ble_eq_true rfl, Nat.le_of_ble_eq_true rfl⟩ (Nat.le_of_ble_eq_true rfl) (.refl _) dJ4_append_cf468_2 rfl ?_
  rintro r w' ⟨rfl, hO⟩
  refine j_pop (pc := 5) g dJ4_append_cf468_5 rfl ?_
  refine j_aload_n (pc := 6) g 0 dJ4_append_cf468_6 rfl ?_
  exact hE _ _ _ _ _ dJ4_append_cf468_7 (.refl _) ⟨rfl, hO⟩
end SB3
