def zi (f : Nat → Int32) (v p : Nat) : Nat → Int32 := if v < 100 then zd f v p else zd (upd (upd f (p - 1) (nI 48)) (p - 2) (nI 48)) 1 (p - 2)
theorem z_uc {f : Nat → Int32} {i j : Nat} {x y : Int32} (h : i ≠ j) : upd (upd f i x) j y = upd (upd f j y) i x := by
  funext q
  by_cases hi : q = i
  · subst hi; rw [pk_un h, pk_us, pk_us]
  · by_cases hj : q = j
    · subst hj; rw [pk_us, pk_un hi, pk_us]
    · rw [pk_un hj, pk_un hi, pk_un hi, pk_un hj]
theorem z_TI {cs : List Nat} {v M : Nat} {f f' : Nat → Int32} (hv : v < 101) (h : sbT cs f) (hl : cs.length ≤ M) (hk : ∀ j, j < M → f' j = f j) : sbT (cs ++ tx_d v) (zi f' v (cs.length + (tx_d v).length)) := by
  rw [tx_len]
  unfold tx_d zi zd
  by_cases h1 : v < 10
  · rw [if_pos h1, if_pos h1, if_pos (by omega), if_pos h1, Nat.add_sub_cancel, show v % 10 = v by omega]
    exact z_T1 h hl hk
  · by_cases h2 : v < 100
    · rw [if_neg h1, if_pos h2, if_neg h1, if_pos h2, if_pos h2, if_neg h1, show cs.length + 2 - 1 = cs.length + 1 by omega, Nat.add_sub_cancel, z_uc (by omega)]
      have := z_T1 (c := 48 + v % 10) (M := (cs ++ [48 + v / 10]).length) (z_T1 (c := 48 + v / 10) h hl hk) (Nat.le_refl _) (fun _ _ => rfl)
      rw [List.append_assoc, List.length_append] at this
      exact this
    · have e : v = 100 := by omega
      subst e
      simp only [if_neg h1, if_neg h2, if_pos (show (1 : Nat) < 10 by decide)]
      rw [show cs.length + 3 - 1 = cs.length + 2 by omega, show cs.length + 3 - 2 = cs.length + 1 by omega, Nat.add_sub_cancel]
      rw [z_uc (i := cs.length + 1) (j := cs.length) (by omega), z_uc (i := cs.length + 2) (j := cs.length) (by omega), z_uc (i := cs.length + 2) (j := cs.length + 1) (by omega)]
      have t1 := z_T1 (c := 49) h hl hk
      have t2 := z_T1 (c := 48) t1 (Nat.le_refl _) (fun _ _ => rfl)
      have t3 := z_T1 (c := 48) t2 (Nat.le_refl _) (fun _ _ => rfl)
      simp only [List.append_assoc, List.length_append, List.length_singleton] at t3
      exact t3
theorem z_FI {v p : Nat} {f : Nat → Int32} (hv : v < 101) (hf : sb_Fit f) : sb_Fit (zi f v p) := by
  unfold zi zd
  split
  · split
    · exact sb_fitU hf (z_b3 _ (by omega))
    · exact sb_fitU (sb_fitU hf (z_b3 _ (by omega))) (z_b3 _ (by omega))
  · rw [if_pos (by decide)]
    exact sb_fitU (sb_fitU (sb_fitU hf (z_b3 _ (by decide))) (z_b3 _ (by decide))) (z_b3 _ (by decide))
section SB7
variable {D : va_G} {t : Nat → ClassId} {aa : gx_AA} {E : gx_E} {l : Launch} {b da : Nat} {ml : Int32} {n M : Nat} {f : Nat → Int32} {rs : va_W} {cs : List Nat}
set_option maxRecDepth 100000 in
set_option maxHeartbeats 4000000 in
theorem z_getChars (h0 : zE aa E) {v : Nat} (hv : v < 101) (hn : n + (tx_d v).length ≤ M) (hM : M ≤ 34) : gx_CP D t E l yJ6_getChars_ba4f3 cJ6_getChars_ba4f3 7 (some .int) 0 0 0 0 [.int (nI v), .int (nI (n + (tx_d v).length)), .ref da] ((da, .inl (t 5, M, .inl f)) :: rs) (fun r w' => r = some (.int (nI n)) ∧ w' = (da, .inl (t 5, M, .inl (zi f v (n + (tx_d v).length)))) :: rs) := by
  refine gx_intro_pi (by decide) (Nat.le_of_ble_eq_true rfl) (fun J g hE => ?_)
  generalize hp : n + (tx_d v).length = p at hn hE ⊢
  have hlen := tx_len v
  refine j_iload_n (pc := 0) g 1 dJ6_getChars_ba4f3_0 rfl ?_
  refine j_istore (i := 5) (L' := [(5, .int (nI p)), (0, .int (nI v)), (1, .int (nI p)), (2, .ref da)]) (pc := 1) g dJ6_getChars_ba4f3_1 (Nat.le_of_ble_eq_true rfl) rfl ?_
  refine j_iload_n (pc := 3) g 1 dJ6_getChars_ba4f3_3 rfl ?_
  refine j_if_ge (tgt := 11) (pc := 4) g dJ6_getChars_ba4f3_4 (by decide) (fun _ => ?_) (fun h => absurd (Int32.not_lt.mp (z_n4 v hv)) h)
  refine j_iconst (v := 0) (pc := 11) g dJ6_getChars_ba4f3_11 (by decide) ?_
  refine j_istore (i := 6) (L' := [(6, .int 0), (5, .int (nI p)), (0, .int (nI v)), (1, .int (nI p)), (2, .ref da)]) (pc := 12) g dJ6_getChars_ba4f3_12 (Nat.le_of_ble_eq_true rfl) rfl ?_
  refine j_iload (pc := 14) g 0 dJ6_getChars_ba4f3_14 rfl ?_
  refine j_if_ne (tgt := 22) (pc := 16) g dJ6_getChars_ba4f3_16 (by decide) (fun h => absurd rfl h) (fun _ => ?_)
  refine j_iload_n (pc := 19) g 2 dJ6_getChars_ba4f3_19 rfl ?_
  refine j_ineg (pc := 20) g dJ6_getChars_ba4f3_20 ?_
  refine j_istore_n (i := 0) (L' := [(0, .int (-(nI v))), (6, .int 0), (5, .int (nI p)), (1, .int (nI p)), (2, .ref da)]) (pc := 21) g dJ6_getChars_ba4f3_21 rfl (Nat.le_of_ble_eq_true rfl) rfl ?_
  by_cases h2 : v < 100
  · have hd : zdu v = (tx_d v).length := by rw [hlen]; unfold zdu; split <;> simp [h2]
    have e1 : zi f v p = zd f v p := if_pos h2
    refine tz_getChars (x1 := .int (nI p)) h0 g h2 (by omega) hn hM (fun L => ?_)
    rw [← e1, show p - zdu v = n by omega]
    exact hE _ _ _ _ _ dJ6_getChars_ba4f3_120 rfl (.refl _) ⟨rfl, rfl⟩
  · have e : v = 100 := by omega
    subst e
    have e1 : zi f 100 p = zd (upd (upd f (p - 1) (nI 48)) (p - 2) (nI 48)) 1 (p - 2) := if_neg h2
    have hl3 : (tx_d 100).length = 3 := rfl
    rw [hl3] at hp
    refine j_iload_n (pc := 22) g 0 dJ6_getChars_ba4f3_22 rfl ?_
    refine j_bipush (v := -100) (pc := 23) g dJ6_getChars_ba4f3_23 (by decide) ?_
    refine j_icmp_gt (tgt := 72) (pc := 25) g dJ6_getChars_ba4f3_25 (by decide) (fun h => absurd h (by decide)) (fun _ => ?_)
    refine j_iload_n (pc := 28) g 0 dJ6_getChars_ba4f3_28 rfl ?_
    refine j_bipush (v := 100) (pc := 29) g dJ6_getChars_ba4f3_29 (by decide) ?_
    refine j_idiv (pc := 31) g dJ6_getChars_ba4f3_31 (by decide) ?_
    rw [show (-(nI 100)) / (100 : Int32) = -1 from by decide]
    refine j_istore_n (i := 3) (L' := [(3, .int (-1)), (0, .int (-(nI 100))), (6, .int 0), (5, .int (nI p)), (1, .int (nI p)), (2, .ref da)]) (pc := 32) g dJ6_getChars_ba4f3_32 rfl (Nat.le_of_ble_eq_true rfl) rfl ?_
    refine j_iload_n (pc := 33) g 0 dJ6_getChars_ba4f3_33 rfl ?_
    refine j_bipush (v := 100) (pc := 34) g dJ6_getChars_ba4f3_34 (by decide) ?_
    refine j_imul (pc := 36) g dJ6_getChars_ba4f3_36 ?_
    refine j_iload_n (pc := 37) g 1 dJ6_getChars_ba4f3_37 rfl ?_
    refine j_isub (pc := 38) g dJ6_getChars_ba4f3_38 ?_
    rw [show (-1 : Int32) * 100 - -(nI 100) = nI 0 from by decide]
    refine j_istore (i := 4) (L' := [(4, .int (nI 0)), (3, .int (-1)), (0, .int (-(nI 100))), (6, .int 0), (5, .int (nI p)), (1, .int (nI p)), (2, .ref da)]) (pc := 39) g dJ6_getChars_ba4f3_39 (Nat.le_of_ble_eq_true rfl) rfl ?_
    refine j_iload_n (pc := 41) g 1 dJ6_getChars_ba4f3_41 rfl ?_
    refine j_istore_n (i := 0) (L' := [(0, .int (-1)), (4, .int (nI 0)), (3, .int (-1)), (6, .int 0), (5, .int (nI p)), (1, .int (nI p)), (2, .ref da)]) (pc := 42) g dJ6_getChars_ba4f3_42 rfl (Nat.le_of_ble_eq_true rfl) rfl ?_
    refine j_aload_n (pc := 43) g 6 dJ6_getChars_ba4f3_43 rfl ?_
    refine j_iinc (v := nI (p - 1)) (L' := [(5, .int (nI (p - 1))), (0, .int (-1)), (4, .int (nI 0)), (3, .int (-1)), (6, .int 0), (1, .int (nI p)), (2, .ref da)]) (pc := 44) g 4 dJ6_getChars_ba4f3_44 rfl (z_n8 p (by omega) (by omega)) (Nat.le_of_ble_eq_true rfl) rfl ?_
    refine j_iload (pc := 47) g 0 dJ6_getChars_ba4f3_47 rfl ?_
    refine j_gets (pc := 49) g (e_d1 h0) q_f_J6_83 rfl dJ6_getChars_ba4f3_49 ?_
    refine j_iload (pc := 52) g 2 dJ6_getChars_ba4f3_52 rfl ?_
    refine j_tb (pc := 54) g (e_t1 h0) (v := .int (nI 48)) (nI_in (by decide) (by decide)) rfl dJ6_getChars_ba4f3_54 ?_
    refine j_bast (pc := 55) g 0 rfl (vp_in_nI (n := p - 1) (by omega) (by omega)) rfl dJ6_getChars_ba4f3_55 ?_
    rw [nI_clamp (n := p - 1) (by omega), z_b2 48 (by decide)]
    refine j_aload_n (pc := 56) g 6 dJ6_getChars_ba4f3_56 rfl ?_
    refine j_iinc (v := nI (p - 2)) (L' := [(5, .int (nI (p - 2))), (0, .int (-1)), (4, .int (nI 0)), (3, .int (-1)), (6, .int 0), (1, .int (nI p)), (2, .ref da)]) (pc := 57) g 0 dJ6_getChars_ba4f3_57 rfl (z_n8 (p - 1) (by omega) (by omega)) (Nat.le_of_ble_eq_true rfl) rfl ?_
    refine j_iload (pc := 60) g 0 dJ6_getChars_ba4f3_60 rfl ?_
    refine j_gets (pc := 62) g (e_d2 h0) q_f_J6_87 rfl dJ6_getChars_ba4f3_62 ?_
    refine j_iload (pc := 65) g 2 dJ6_getChars_ba4f3_65 rfl ?_
    refine j_tb (pc := 67) g (e_t2 h0) (v := .int (nI 48)) (nI_in (by decide) (by decide)) rfl dJ6_getChars_ba4f3_67 ?_
    refine j_bast (pc := 68) g 0 rfl (vp_in_nI (n := p - 2) (by omega) (by omega)) rfl dJ6_getChars_ba4f3_68 ?_
    rw [nI_clamp (n := p - 2) (by omega), z_b2 48 (by decide)]
    refine j_goto (tgt := 22) (pc := 69) g dJ6_getChars_ba4f3_69 (by decide) ?_
    refine j_sub (pc := 22) g (L' := [(0, .int (-(nI 1))), (6, .int 0), (5, .int (nI (p - 2))), (1, .int (nI p)), (2, .ref da)]) [1, 4, 0, 5, 6] rfl ?_
    have hz : zdu 1 = 1 := rfl
    refine tz_getChars (x1 := .int (nI p)) h0 g (u := 1) (by decide) (by omega) (by omega) hM (fun L => ?_)
    rw [← e1, show p - 2 - zdu 1 = n by omega]
    exact hE _ _ _ _ _ dJ6_getChars_ba4f3_120 rfl (.refl _) ⟨rfl, rfl⟩
set_option maxRecDepth 100000 in
set_option maxHeartbeats 4000000 in
theorem z_appI5 (h0 : zE aa E) {v : Nat} (hv : v < 101) (hM : M = 16 ∨ M = 34) (hl : cs.length ≤ M) (hn : cs.length + (tx_d v).length ≤ 34) (hf : sb_Fit f) (hT : sbT cs f) : gx_CP D t E l yJ5_append_c97b9 cJ5_append_c97b9 4 (some (.object "java/lang/AbstractStringBuilder")) 4 120 1 34 [.ref b, .int (nI v)] (sbB t b da ml cs.length M f rs) (fun r w' => r = some (.ref b) ∧ zOut t b (cs ++ tx_d v) rs w') := by
  refine gx_intro_pa (by decide) (Nat.le_of_ble_eq_true rfl) (Or.inl ⟨_, rfl⟩) (fun J g hE => ?_)
  refine j_aload_n (pc := 0) g 0 dJ5_append_c97b9_0 rfl ?_
  refine j_get (pc := 1) g in_J4 0 rfl (ci := 10) rfl 3 (by decide) q_f_J5_79 rfl rfl dJ5_append_c97b9_1 ?_
  refine j_istore_n (i := 2) (L' := [(2, .int (nI cs.length)), (0, .ref b), (1, .int (nI v))]) (pc := 4) g dJ5_append_c97b9_4 rfl (Nat.le_of_ble_eq_true rfl) rfl ?_
  refine j_iload_n (pc := 5) g 0 dJ5_append_c97b9_5 rfl ?_
  refine j_iload_n (pc := 6) g 2 dJ5_append_c97b9_6 rfl ?_
  refine j_callPS (pc := 7) (na := 1) (As := [.int (nI v)]) (rest := [.int (nI cs.length)]) g (z_stringSize hv) q_t_J6_stringSize_0f7a4 q_c_J6_stringSize_0f7a4 q_l_J5_245 q_n_J6 (by decide +kernel) rfl ⟨Nat.le_of_ble_eq_true rfl, Nat.le_of_ble_eq_true rfl⟩ ⟨Nat.zero_le _, Nat.zero_le _⟩ (Nat.le_of_ble_eq_true rfl) (.refl _) dJ5_append_c97b9_7 rfl ?_
  rintro r w' ⟨rfl, rfl⟩
  refine j_iadd (pc := 10) g dJ5_append_c97b9_10 ?_
  rw [nI_add]
  refine j_istore_n (i := 3) (L' := [(3, .int (nI (cs.length + (tx_d v).length))), (2, .int (nI cs.length)), (0, .ref b), (1, .int (nI v))]) (pc := 11) g dJ5_append_c97b9_11 rfl (Nat.le_of_ble_eq_true rfl) rfl ?_
  refine j_aload_n (pc := 12) g 2 dJ5_append_c97b9_12 rfl ?_
  refine j_iload_n (pc := 13) g 0 dJ5_append_c97b9_13 rfl ?_
  refine j_callPU (pc := 14) (na := 1) (As := [.int (nI (cs.length + (tx_d v).length))]) (rest := []) g (qc := (RJ4, TJ4, 4)) yJ5_ensureCapacityInternal_d00df (z_ensure h0 hn hM hf) (ci := 10) (q0 := 0) rfl rfl q_i_J5_ensureCapacityInternal_d00df q_i_J5_ensureCapacityInternal_d00df q_c_J5_ensureCapacityInternal_d00df q_m_J5_ensureCapacityInternal_d00df (z_priv h0 q_p_J5_ensureCapacityInternal_d00df (by decide) q_m_J5_ensureCapacityInternal_d00df q_i_J5_ensureCapacityInternal_d00df) q_c_J5_ensureCapacityInternal_d00df q_l_J5_100 q_n_J5 (by decide +kernel) rfl ⟨Nat.le_of_ble_eq_true rfl, Nat.le_of_ble_eq_true rfl⟩ ⟨Nat.le_of_ble_eq_true rfl, Nat.le_of_ble_eq_true rfl⟩ (Nat.le_of_ble_eq_true rfl) (.refl _) dJ5_append_c97b9_14 rfl ?_
  rintro r w' ⟨rfl, da', M', f', rfl, hM', hq', hMM, hf', hk⟩
  refine j_aload_n (pc := 17) g 2 dJ5_append_c97b9_17 rfl ?_
  refine j_callPU (pc := 18) (na := 0) (As := []) (rest := []) g (qc := (RJ4, TJ4, 4)) yJ5_isLatin1_aae02 (z_isLatin1 h0) (ci := 10) (q0 := 0) rfl rfl q_i_J5_isLatin1_aae02 q_i_J5_isLatin1_aae02 q_c_J5_isLatin1_aae02 q_m_J5_isLatin1_aae02 (fun s args A hts _ => hts _ q_z_J5_isLatin1_aae02) q_c_J5_isLatin1_aae02 q_l_J5_83 q_n_J5 (by decide +kernel) rfl ⟨Nat.le_of_ble_eq_true rfl, Nat.le_of_ble_eq_true rfl⟩ ⟨Nat.le_of_ble_eq_true rfl, Nat.le_of_ble_eq_true rfl⟩ (Nat.le_of_ble_eq_true rfl) (.refl _) dJ5_append_c97b9_18 rfl ?_
  rintro r w' ⟨rfl, rfl⟩
  refine j_if_eq (tgt := 37) (pc := 21) g dJ5_append_c97b9_21 (by decide) (fun h => absurd h (by decide)) (fun _ => ?_)
  refine j_iload_n (pc := 24) g 3 dJ5_append_c97b9_24 rfl ?_
  refine j_iload_n (pc := 25) g 0 dJ5_append_c97b9_25 rfl ?_
  refine j_aload_n (pc := 26) g 2 dJ5_append_c97b9_26 rfl ?_
  refine j_get (pc := 27) g in_J4 0 rfl (ci := 10) rfl 0 (by decide) q_f_J5_15 rfl rfl dJ5_append_c97b9_27 ?_
  refine j_callPS (pc := 30) (na := 3) (As := [.int (nI v), .int (nI (cs.length + (tx_d v).length)), .ref da']) (rest := []) g (z_getChars (rs := (b, .inr (10, [.ref da', .int 0, .int ml, .int (nI cs.length)])) :: rs) h0 hv hq' (by omega)) q_t_J6_getChars_ba4f3 q_c_J6_getChars_ba4f3 q_l_J5_248 q_n_J6 (by decide +kernel) rfl ⟨Nat.le_of_ble_eq_true rfl, Nat.le_of_ble_eq_true rfl⟩ ⟨Nat.le_of_ble_eq_true rfl, Nat.le_of_ble_eq_true rfl⟩ (Nat.le_of_ble_eq_true rfl) (.swap _ _ _) dJ5_append_c97b9_30 rfl ?_
  rintro r w' ⟨rfl, rfl⟩
  refine j_pop (pc := 33) g dJ5_append_c97b9_33 rfl ?_
  refine j_goto (tgt := 48) (pc := 34) g dJ5_append_c97b9_34 (by decide) ?_
  refine j_aload_n (pc := 48) g 2 dJ5_append_c97b9_48 rfl ?_
  refine j_iload_n (pc := 49) g 0 dJ5_append_c97b9_49 rfl ?_
  refine j_put (pc := 50) g in_J4 1 rfl (ci := 10) rfl 3 (by decide) q_f_J5_79 rfl tyJ4 tyJ4_ok nmJ4 rfl (ty := .int) (tyJ4_ok 3 (by decide)) rfl rfl (Nat.le_of_ble_eq_true rfl) rfl dJ5_append_c97b9_50 ?_
  refine j_aload_n (pc := 53) g 2 dJ5_append_c97b9_53 rfl ?_
  have e : (cs ++ tx_d v).length = cs.length + (tx_d v).length := List.length_append
  exact hE _ _ _ _ _ dJ5_append_c97b9_54 (.swap _ _ _) ⟨rfl, da', ml, M', _, by rw [e]; rfl, hM', by rw [e]; exact hq', z_FI hv hf', z_TI hv hT hl hk⟩
set_option maxRecDepth 100000 in
set_option maxHeartbeats 4000000 in
theorem z_appI (h0 : zE aa E) {v : Nat} (hv : v < 101) (hM : M = 16 ∨ M = 34) (hl : cs.length ≤ M) (hn : cs.length + (tx_d v).length ≤ 34) (hf : sb_Fit f) (hT : sbT cs f) : gx_CP D t E l yJ4_append_bf812 cJ4_append_bf812 2 (some (.object "java/lang/StringBuilder")) 5 150 1 34 [.ref b, .int (nI v)] (sbB t b da ml cs.length M f rs) (fun r w' => r = some (.ref b) ∧ zOut t b (cs ++ tx_d v) rs w') := by
  refine gx_intro_pa (by decide) (Nat.le_of_ble_eq_true rfl) (Or.inl ⟨_, rfl⟩) (fun J g hE => ?_)
  refine j_aload_n (pc := 0) g 0 dJ4_append_bf812_0 rfl ?_
  refine j_iload_n (pc := 1) g 1 dJ4_append_bf812_1 rfl ?_
  refine j_callPR (pc := 2) (na := 1) (As := [.int (nI v)]) (rest := []) g (z_appI5 h0 hv hM hl hn hf hT) (qc := (RJ4, TJ4, 4)) (ci := 10) (q0 := 0) rfl rfl q_in_J4 q_i_J5_append_c97b9 q_m_J5_append_c97b9 q_su_J4 (by decide) q_c_J5_append_c97b9 q_l_J4_53 q_n_J5 (by decide +kernel) rfl ⟨Nat.le_of_ble_eq_true rfl, Nat.le_of_ble_eq_true rfl⟩ ⟨Nat.le_of_ble_eq_true rfl, Nat.le_of_ble_eq_true rfl⟩ (Nat.le_of_ble_eq_true rfl) (.refl _) dJ4_append_bf812_2 rfl ?_
  rintro r w' ⟨rfl, hO⟩
  refine j_pop (pc := 5) g dJ4_append_bf812_5 rfl ?_
  refine j_aload_n (pc := 6) g 0 dJ4_append_bf812_6 rfl ?_
  exact hE _ _ _ _ _ dJ4_append_bf812_7 (.refl _) ⟨rfl, hO⟩
end SB7
