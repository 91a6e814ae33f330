set_option maxRecDepth 100000 in
set_option maxHeartbeats 4000000 in
theorem lw_c16 {D : va_G} {t : Nat → ClassId} {aa : gx_AA} {l : Launch} {J : gx_J} {b Ln : Nat} {xs : Nat → Int32} (gl : gx_GL D t (gx_E0 aa) l room_1 cL_law RL 10 J b Ln xs) (hst : l.stackTraces = false) {k n : Nat} (hk : k + 1 ≤ room_1.cells) (hn : n + 6 ≤ room_1.slots) {i : Int32} (h1 : vp_in (i + 1) Ln) (h2 : vp_in (i + 2) Ln) (h3 : vp_in (i + 3) Ln) {ad am : Nat → Nat} {o od : Nat} {σk : CS} {σm : OS} {fo : Nat → Int64} {fd : Nat → UInt64} {R : CS → OS → Prop} (hag : Ag_subordinates R σk σm (xs (i + 1).toNatClampNeg)) (next : ∀ (σk2 : CS) (σm2 : OS) (fo2 : Nat → Int64) (fd2 : Nat → UInt64), R σk2 σm2 → J (k + 1) (n + 6) ((o, .inl (t 4, 1, .inr (.inl fo2))) :: (od, .inl (t 5, 1, .inr (.inr (.inr (.inl fd2))))) :: (mC am t σm2 ++ kW aa ad t σk2 [])) 2781 [(5, .int i), (4, .ref od), (3, .ref o), (2, .ref (am 0)), (1, .ref (ad 0)), (0, .ref b)] []) : J k n ((o, .inl (t 4, 1, .inr (.inl fo))) :: (od, .inl (t 5, 1, .inr (.inr (.inr (.inl fd))))) :: (mC am t σm ++ kW aa ad t σk [])) 1108 [(5, .int i), (4, .ref od), (3, .ref o), (2, .ref (am 0)), (1, .ref (ad 0)), (0, .ref b)] [] := by
  have g := gl.g
  have hkk : k ≤ room_1.cells := by omega
  have hnn : n ≤ room_1.slots := by omega
  obtain ⟨r, σm1, hm, hag⟩ := hag
  rcases hag with ⟨σk1, hf, h0, hR⟩ | ⟨σk1, hf, h0, hR⟩
  · refine j_aload_n (pc := 1108) g 4 dL_law_1108 rfl ?_
    refine j_aload_n (pc := 1109) g 5 dL_law_1109 rfl ?_
    refine j_iload (pc := 1110) g 0 dL_law_1110 rfl ?_
    refine j_iconst (v := 1) (pc := 1112) g dL_law_1112 (by decide) ?_
    refine j_iadd (pc := 1113) g dL_law_1113 ?_
    refine j_sld (pc := 1114) gl h1 dL_law_1114 ?_
    refine j_aload_n (pc := 1115) g 2 dL_law_1115 rfl ?_
    refine j_callH (pc := 1116) (na := 3) (As := [.ref (ad 0), .int (xs (i + 1).toNatClampNeg), .ref o]) (rest := []) (r := 0) (w' := ((o, .inl (t 4, 1, .inr (.inl (vp_updL fo (0 : Int32).toNatClampNeg r.toInt64)))) :: (od, .inl (t 5, 1, .inr (.inr (.inr (.inl fd))))) :: (mC am t σm ++ kW aa ad t σk1 []))) g (hL_subordinates_ok (rs := (od, .inl (t 5, 1, .inr (.inr (.inr (.inl fd))))) :: mC am t σm) hst hf) q_t_L_subordinates q_w_L_subordinates q_l_L_212 q_n_L (by decide) (by decide +kernel) rfl ⟨Nat.le_of_ble_eq_true rfl, Nat.le_of_ble_eq_true rfl⟩ ⟨by omega, by omega⟩ (Nat.le_of_ble_eq_true rfl) (lw_pm_h aa ad am t σk σm _ _) (lw_pm_h aa ad am t σk1 σm _ _).symm dL_law_1116 ?_ rfl
    have hkk : k + 0 ≤ room_1.cells := by omega
    have hnn : n + 0 ≤ room_1.slots := by omega
    refine j_istore (L' := [(6, .int 0), (5, .int i), (4, .ref od), (3, .ref o), (2, .ref (am 0)), (1, .ref (ad 0)), (0, .ref b)]) (pc := 1119) g dL_law_1119 (Nat.le_of_ble_eq_true rfl) rfl ?_
    refine j_aload_n (pc := 1121) g 4 dL_law_1121 rfl ?_
    refine j_aload_n (pc := 1122) g 6 dL_law_1122 rfl ?_
    refine j_iload (pc := 1123) g 1 dL_law_1123 rfl ?_
    refine j_iconst (v := 1) (pc := 1125) g dL_law_1125 (by decide) ?_
    refine j_iadd (pc := 1126) g dL_law_1126 ?_
    refine j_sld (pc := 1127) gl h1 dL_law_1127 ?_
    refine j_callVi (pc := 1128) (na := 1) (As := [.int (xs (i + 1).toNatClampNeg)]) (rest := []) (q0 := 2) (ci := 10) (w' := ((o, .inl (t 4, 1, .inr (.inl (vp_updL fo (0 : Int32).toNatClampNeg r.toInt64)))) :: (od, .inl (t 5, 1, .inr (.inr (.inr (.inl fd))))) :: (mC am t σm1 ++ kW aa ad t σk1 []))) g (cX9_subordinates_ (rs := (o, .inl (t 4, 1, .inr (.inl (vp_updL fo (0 : Int32).toNatClampNeg r.toInt64)))) :: (od, .inl (t 5, 1, .inr (.inr (.inr (.inl fd))))) :: kW aa ad t σk1 []) hm) q_i_X9_subordinates q_s_X9_subordinates rfl rfl rfl q_c_X9_subordinates q_l_L_214 q_n_X9 (by decide +kernel) rfl ⟨Nat.le_of_ble_eq_true rfl, Nat.le_of_ble_eq_true rfl⟩ ⟨hkk, hnn⟩ (Nat.le_of_ble_eq_true rfl) (lw_pm_m aa ad am t σk1 σm _ _) (lw_pm_m aa ad am t σk1 σm1 _ _).symm dL_law_1128 ?_ rfl
    refine j_istore (L' := [(7, .int r), (6, .int 0), (5, .int i), (4, .ref od), (3, .ref o), (2, .ref (am 0)), (1, .ref (ad 0)), (0, .ref b)]) (pc := 1131) g dL_law_1131 (Nat.le_of_ble_eq_true rfl) rfl ?_
    refine j_aload_n (pc := 1133) g 5 dL_law_1133 rfl ?_
    refine j_callVi (pc := 1134) (na := 0) (As := []) (rest := []) (q0 := 2) (ci := 10) (w' := ((o, .inl (t 4, 1, .inr (.inl (vp_updL fo (0 : Int32).toNatClampNeg r.toInt64)))) :: (od, .inl (t 5, 1, .inr (.inr (.inr (.inl fd))))) :: (mC am t σm1 ++ kW aa ad t σk1 []))) g (cX9_thrown_ (rs := (o, .inl (t 4, 1, .inr (.inl (vp_updL fo (0 : Int32).toNatClampNeg r.toInt64)))) :: (od, .inl (t 5, 1, .inr (.inr (.inr (.inl fd))))) :: kW aa ad t σk1 []) rfl) q_i_X9_thrown q_s_X9_thrown rfl rfl rfl q_c_X9_thrown q_l_L_155 q_n_X9 (by decide +kernel) rfl ⟨Nat.le_of_ble_eq_true rfl, Nat.le_of_ble_eq_true rfl⟩ ⟨hkk, hnn⟩ (Nat.le_of_ble_eq_true rfl) (lw_pm_m aa ad am t σk1 σm1 _ _) (lw_pm_m aa ad am t σk1 σm1 _ _).symm dL_law_1134 ?_ rfl
    refine j_iload (pc := 1137) g 1 dL_law_1137 rfl ?_
    refine j_icmp_eq (tgt := 1144) (pc := 1139) g dL_law_1139 (by decide) (fun _ => ?_) (fun h9 => absurd h0 h9)
    refine j_iload (pc := 1144) g 1 dL_law_1144 rfl ?_
    refine j_if_ne (tgt := 1161) (pc := 1146) g dL_law_1146 (by decide) (fun h9 => absurd rfl h9) (fun _ => ?_)
    refine j_aload_n (pc := 1149) g 4 dL_law_1149 rfl ?_
    refine j_iconst (v := 0) (pc := 1150) g dL_law_1150 (by decide) ?_
    refine j_lald (pc := 1151) g 0 rfl (show gx_in (0 : Int32) 1 by decide) dL_law_1151 ?_
    refine j_iload (pc := 1152) g 0 dL_law_1152 rfl ?_
    refine j_i2l (pc := 1154) g dL_law_1154 ?_
    refine j_lcmp (pc := 1155) g dL_law_1155 ?_
    refine j_if_eq (tgt := 1161) (pc := 1156) g dL_law_1156 (by decide) (fun _ => ?_) (fun h9 => absurd (lw_cmp0 _) h9)
    refine j_goto (tgt := 2781) (pc := 1161) g dL_law_1161 (by decide) ?_
    refine j_sub (pc := 2781) g [2, 3, 4, 5, 6, 7] rfl ?_
    exact j_widen g (by omega) (by omega) (next σk1 σm1 (vp_updL fo (0 : Int32).toNatClampNeg r.toInt64) fd hR)
  · refine j_aload_n (pc := 1108) g 4 dL_law_1108 rfl ?_
    refine j_aload_n (pc := 1109) g 5 dL_law_1109 rfl ?_
    refine j_iload (pc := 1110) g 0 dL_law_1110 rfl ?_
    refine j_iconst (v := 1) (pc := 1112) g dL_law_1112 (by decide) ?_
    refine j_iadd (pc := 1113) g dL_law_1113 ?_
    refine j_sld (pc := 1114) gl h1 dL_law_1114 ?_
    refine j_aload_n (pc := 1115) g 2 dL_law_1115 rfl ?_
    refine j_callH (pc := 1116) (na := 3) (As := [.ref (ad 0), .int (xs (i + 1).toNatClampNeg), .ref o]) (rest := []) (r := 1) (w' := ((o, .inl (t 4, 1, .inr (.inl fo))) :: (od, .inl (t 5, 1, .inr (.inr (.inr (.inl fd))))) :: (mC am t σm ++ kW aa ad t σk1 []))) g (hL_subordinates_x1 (rs := (od, .inl (t 5, 1, .inr (.inr (.inr (.inl fd))))) :: mC am t σm) hst hf) q_t_L_subordinates q_w_L_subordinates q_l_L_212 q_n_L (by decide) (by decide +kernel) rfl ⟨Nat.le_of_ble_eq_true rfl, Nat.le_of_ble_eq_true rfl⟩ ⟨by omega, by omega⟩ (Nat.le_of_ble_eq_true rfl) (lw_pm_h aa ad am t σk σm _ _) (lw_pm_h aa ad am t σk1 σm _ _).symm dL_law_1116 ?_ rfl
    have hkk : k + 1 ≤ room_1.cells := by omega
    have hnn : n + 6 ≤ room_1.slots := by omega
    refine j_istore (L' := [(6, .int 1), (5, .int i), (4, .ref od), (3, .ref o), (2, .ref (am 0)), (1, .ref (ad 0)), (0, .ref b)]) (pc := 1119) g dL_law_1119 (Nat.le_of_ble_eq_true rfl) rfl ?_
    refine j_aload_n (pc := 1121) g 4 dL_law_1121 rfl ?_
    refine j_aload_n (pc := 1122) g 6 dL_law_1122 rfl ?_
    refine j_iload (pc := 1123) g 1 dL_law_1123 rfl ?_
    refine j_iconst (v := 1) (pc := 1125) g dL_law_1125 (by decide) ?_
    refine j_iadd (pc := 1126) g dL_law_1126 ?_
    refine j_sld (pc := 1127) gl h1 dL_law_1127 ?_
    refine j_callVi (pc := 1128) (na := 1) (As := [.int (xs (i + 1).toNatClampNeg)]) (rest := []) (q0 := 2) (ci := 10) (w' := ((o, .inl (t 4, 1, .inr (.inl fo))) :: (od, .inl (t 5, 1, .inr (.inr (.inr (.inl fd))))) :: (mC am t σm1 ++ kW aa ad t σk1 []))) g (cX9_subordinates_ (rs := (o, .inl (t 4, 1, .inr (.inl fo))) :: (od, .inl (t 5, 1, .inr (.inr (.inr (.inl fd))))) :: kW aa ad t σk1 []) hm) q_i_X9_subordinates q_s_X9_subordinates rfl rfl rfl q_c_X9_subordinates q_l_L_214 q_n_X9 (by decide +kernel) rfl ⟨Nat.le_of_ble_eq_true rfl, Nat.le_of_ble_eq_true rfl⟩ ⟨hkk, hnn⟩ (Nat.le_of_ble_eq_true rfl) (lw_pm_m aa ad am t σk1 σm _ _) (lw_pm_m aa ad am t σk1 σm1 _ _).symm dL_law_1128 ?_ rfl
    refine j_istore (L' := [(7, .int r), (6, .int 1), (5, .int i), (4, .ref od), (3, .ref o), (2, .ref (am 0)), (1, .ref (ad 0)), (0, .ref b)]) (pc := 1131) g dL_law_1131 (Nat.le_of_ble_eq_true rfl) rfl ?_
    refine j_aload_n (pc := 1133) g 5 dL_law_1133 rfl ?_
    refine j_callVi (pc := 1134) (na := 0) (As := []) (rest := []) (q0 := 2) (ci := 10) (w' := ((o, .inl (t 4, 1, .inr (.inl fo))) :: (od, .inl (t 5, 1, .inr (.inr (.inr (.inl fd))))) :: (mC am t σm1 ++ kW aa ad t σk1 []))) g (cX9_thrown_ (rs := (o, .inl (t 4, 1, .inr (.inl fo))) :: (od, .inl (t 5, 1, .inr (.inr (.inr (.inl fd))))) :: kW aa ad t σk1 []) rfl) q_i_X9_thrown q_s_X9_thrown rfl rfl rfl q_c_X9_thrown q_l_L_155 q_n_X9 (by decide +kernel) rfl ⟨Nat.le_of_ble_eq_true rfl, Nat.le_of_ble_eq_true rfl⟩ ⟨hkk, hnn⟩ (Nat.le_of_ble_eq_true rfl) (lw_pm_m aa ad am t σk1 σm1 _ _) (lw_pm_m aa ad am t σk1 σm1 _ _).symm dL_law_1134 ?_ rfl
    refine j_iload (pc := 1137) g 1 dL_law_1137 rfl ?_
    refine j_icmp_eq (tgt := 1144) (pc := 1139) g dL_law_1139 (by decide) (fun _ => ?_) (fun h9 => absurd h0 h9)
    refine j_iload (pc := 1144) g 1 dL_law_1144 rfl ?_
    refine j_if_ne (tgt := 1161) (pc := 1146) g dL_law_1146 (by decide) (fun _ => ?_) (fun h9 => absurd h9 (by decide))
    refine j_goto (tgt := 2781) (pc := 1161) g dL_law_1161 (by decide) ?_
    refine j_sub (pc := 2781) g [2, 3, 4, 5, 6, 7] rfl ?_
    exact j_widen g (by omega) (by omega) (next σk1 σm1 fo fd hR)
set_option maxRecDepth 100000 in
set_option maxHeartbeats 4000000 in
theorem lw_c17 {D : va_G} {t : Nat → ClassId} {aa : gx_AA} {l : Launch} {J : gx_J} {b Ln : Nat} {xs : Nat → Int32} (gl : gx_GL D t (gx_E0 aa) l room_1 cL_law RL 10 J b Ln xs) (hst : l.stackTraces = false) {k n : Nat} (hk : k + 1 ≤ room_1.cells) (hn : n + 6 ≤ room_1.slots) {i : Int32} (h1 : vp_in (i + 1) Ln) (h2 : vp_in (i + 2) Ln) (h3 : vp_in (i + 3) Ln) {ad am : Nat → Nat} {o od : Nat} {σk : CS} {σm : OS} {fo : Nat → Int64} {fd : Nat → UInt64} {R : CS → OS → Prop} (hag : Ag_depth R σk σm (xs (i + 1).toNatClampNeg)) (next : ∀ (σk2 : CS) (σm2 : OS) (fo2 : Nat → Int64) (fd2 : Nat → UInt64), R σk2 σm2 → J (k + 1) (n + 6) ((o, .inl (t 4, 1, .inr (.inl fo2))) :: (od, .inl (t 5, 1, .inr (.inr (.inr (.inl fd2))))) :: (mC am t σm2 ++ kW aa ad t σk2 [])) 2781 [(5, .int i), (4, .ref od), (3, .ref o), (2, .ref (am 0)), (1, .ref (ad 0)), (0, .ref b)] []) : J k n ((o, .inl (t 4, 1, .inr (.inl fo))) :: (od, .inl (t 5, 1, .inr (.inr (.inr (.inl fd))))) :: (mC am t σm ++ kW aa ad t σk [])) 1164 [(5, .int i), (4, .ref od), (3, .ref o), (2, .ref (am 0)), (1, .ref (ad 0)), (0, .ref b)] [] := by
  have g := gl.g
  have hkk : k ≤ room_1.cells := by omega
  have hnn : n ≤ room_1.slots := by omega
  obtain ⟨r, σm1, hm, hag⟩ := hag
  rcases hag with ⟨σk1, hf, h0, hR⟩ | ⟨σk1, hf, h0, hR⟩
  · refine j_aload_n (pc := 1164) g 4 dL_law_1164 rfl ?_
    refine j_aload_n (pc := 1165) g 5 dL_law_1165 rfl ?_
    refine j_iload (pc := 1166) g 0 dL_law_1166 rfl ?_
    refine j_iconst (v := 1) (pc := 1168) g dL_law_1168 (by decide) ?_
    refine j_iadd (pc := 1169) g dL_law_1169 ?_
    refine j_sld (pc := 1170) gl h1 dL_law_1170 ?_
    refine j_aload_n (pc := 1171) g 2 dL_law_1171 rfl ?_
    refine j_callH (pc := 1172) (na := 3) (As := [.ref (ad 0), .int (xs (i + 1).toNatClampNeg), .ref o]) (rest := []) (r := 0) (w' := ((o, .inl (t 4, 1, .inr (.inl (vp_updL fo (0 : Int32).toNatClampNeg r.toInt64)))) :: (od, .inl (t 5, 1, .inr (.inr (.inr (.inl fd))))) :: (mC am t σm ++ kW aa ad t σk1 []))) g (hL_depth_ok (rs := (od, .inl (t 5, 1, .inr (.inr (.inr (.inl fd))))) :: mC am t σm) hst hf) q_t_L_depth q_w_L_depth q_l_L_215 q_n_L (by decide) (by decide +kernel) rfl ⟨Nat.le_of_ble_eq_true rfl, Nat.le_of_ble_eq_true rfl⟩ ⟨by omega, by omega⟩ (Nat.le_of_ble_eq_true rfl) (lw_pm_h aa ad am t σk σm _ _) (lw_pm_h aa ad am t σk1 σm _ _).symm dL_law_1172 ?_ rfl
    have hkk : k + 0 ≤ room_1.cells := by omega
    have hnn : n + 0 ≤ room_1.slots := by omega
    refine j_istore (L' := [(6, .int 0), (5, .int i), (4, .ref od), (3, .ref o), (2, .ref (am 0)), (1, .ref (ad 0)), (0, .ref b)]) (pc := 1175) g dL_law_1175 (Nat.le_of_ble_eq_true rfl) rfl ?_
    refine j_aload_n (pc := 1177) g 4 dL_law_1177 rfl ?_
    refine j_aload_n (pc := 1178) g 6 dL_law_1178 rfl ?_
    refine j_iload (pc := 1179) g 1 dL_law_1179 rfl ?_
    refine j_iconst (v := 1) (pc := 1181) g dL_law_1181 (by decide) ?_
    refine j_iadd (pc := 1182) g dL_law_1182 ?_
    refine j_sld (pc := 1183) gl h1 dL_law_1183 ?_
    refine j_callVi (pc := 1184) (na := 1) (As := [.int (xs (i + 1).toNatClampNeg)]) (rest := []) (q0 := 2) (ci := 10) (w' := ((o, .inl (t 4, 1, .inr (.inl (vp_updL fo (0 : Int32).toNatClampNeg r.toInt64)))) :: (od, .inl (t 5, 1, .inr (.inr (.inr (.inl fd))))) :: (mC am t σm1 ++ kW aa ad t σk1 []))) g (cX9_depth_ (rs := (o, .inl (t 4, 1, .inr (.inl (vp_updL fo (0 : Int32).toNatClampNeg r.toInt64)))) :: (od, .inl (t 5, 1, .inr (.inr (.inr (.inl fd))))) :: kW aa ad t σk1 []) hm) q_i_X9_depth q_s_X9_depth rfl rfl rfl q_c_X9_depth q_l_L_217 q_n_X9 (by decide +kernel) rfl ⟨Nat.le_of_ble_eq_true rfl, Nat.le_of_ble_eq_true rfl⟩ ⟨hkk, hnn⟩ (Nat.le_of_ble_eq_true rfl) (lw_pm_m aa ad am t σk1 σm _ _) (lw_pm_m aa ad am t σk1 σm1 _ _).symm dL_law_1184 ?_ rfl
    refine j_istore (L' := [(7, .int r), (6, .int 0), (5, .int i), (4, .ref od), (3, .ref o), (2, .ref (am 0)), (1, .ref (ad 0)), (0, .ref b)]) (pc := 1187) g dL_law_1187 (Nat.le_of_ble_eq_true rfl) rfl ?_
    refine j_aload_n (pc := 1189) g 5 dL_law_1189 rfl ?_
    refine j_callVi (pc := 1190) (na := 0) (As := []) (rest := []) (q0 := 2) (ci := 10) (w' := ((o, .inl (t 4, 1, .inr (.inl (vp_updL fo (0 : Int32).toNatClampNeg r.toInt64)))) :: (od, .inl (t 5, 1, .inr (.inr (.inr (.inl fd))))) :: (mC am t σm1 ++ kW aa ad t σk1 []))) g (cX9_thrown_ (rs := (o, .inl (t 4, 1, .inr (.inl (vp_updL fo (0 : Int32).toNatClampNeg r.toInt64)))) :: (od, .inl (t 5, 1, .inr (.inr (.inr (.inl fd))))) :: kW aa ad t σk1 []) rfl) q_i_X9_thrown q_s_X9_thrown rfl rfl rfl q_c_X9_thrown q_l_L_155 q_n_X9 (by decide +kernel) rfl ⟨Nat.le_of_ble_eq_true rfl, Nat.le_of_ble_eq_true rfl⟩ ⟨hkk, hnn⟩ (Nat.le_of_ble_eq_true rfl) (lw_pm_m aa ad am t σk1 σm1 _ _) (lw_pm_m aa ad am t σk1 σm1 _ _).symm dL_law_1190 ?_ rfl
    refine j_iload (pc := 1193) g 1 dL_law_1193 rfl ?_
    refine j_icmp_eq (tgt := 1200) (pc := 1195) g dL_law_1195 (by decide) (fun _ => ?_) (fun h9 => absurd h0 h9)
    refine j_iload (pc := 1200) g 1 dL_law_1200 rfl ?_
    refine j_if_ne (tgt := 1217) (pc := 1202) g dL_law_1202 (by decide) (fun h9 => absurd rfl h9) (fun _ => ?_)
    refine j_aload_n (pc := 1205) g 4 dL_law_1205 rfl ?_
    refine j_iconst (v := 0) (pc := 1206) g dL_law_1206 (by decide) ?_
    refine j_lald (pc := 1207) g 0 rfl (show gx_in (0 : Int32) 1 by decide) dL_law_1207 ?_
    refine j_iload (pc := 1208) g 0 dL_law_1208 rfl ?_
    refine j_i2l (pc := 1210) g dL_law_1210 ?_
    refine j_lcmp (pc := 1211) g dL_law_1211 ?_
    refine j_if_eq (tgt := 1217) (pc := 1212) g dL_law_1212 (by decide) (fun _ => ?_) (fun h9 => absurd (lw_cmp0 _) h9)
    refine j_goto (tgt := 2781) (pc := 1217) g dL_law_1217 (by decide) ?_
    refine j_sub (pc := 2781) g [2, 3, 4, 5, 6, 7] rfl ?_
    exact j_widen g (by omega) (by omega) (next σk1 σm1 (vp_updL fo (0 : Int32).toNatClampNeg r.toInt64) fd hR)
  · refine j_aload_n (pc := 1164) g 4 dL_law_1164 rfl ?_
    refine j_aload_n (pc := 1165) g 5 dL_law_1165 rfl ?_
    refine j_iload (pc := 1166) g 0 dL_law_1166 rfl ?_
    refine j_iconst (v := 1) (pc := 1168) g dL_law_1168 (by decide) ?_
    refine j_iadd (pc := 1169) g dL_law_1169 ?_
    refine j_sld (pc := 1170) gl h1 dL_law_1170 ?_
    refine j_aload_n (pc := 1171) g 2 dL_law_1171 rfl ?_
    refine j_callH (pc := 1172) (na := 3) (As := [.ref (ad 0), .int (xs (i + 1).toNatClampNeg), .ref o]) (rest := []) (r := 1) (w' := ((o, .inl (t 4, 1, .inr (.inl fo))) :: (od, .inl (t 5, 1, .inr (.inr (.inr (.inl fd))))) :: (mC am t σm ++ kW aa ad t σk1 []))) g (hL_depth_x1 (rs := (od, .inl (t 5, 1, .inr (.inr (.inr (.inl fd))))) :: mC am t σm) hst hf) q_t_L_depth q_w_L_depth q_l_L_215 q_n_L (by decide) (by decide +kernel) rfl ⟨Nat.le_of_ble_eq_true rfl, Nat.le_of_ble_eq_true rfl⟩ ⟨by omega, by omega⟩ (Nat.le_of_ble_eq_true rfl) (lw_pm_h aa ad am t σk σm _ _) (lw_pm_h aa ad am t σk1 σm _ _).symm dL_law_1172 ?_ rfl
    have hkk : k + 1 ≤ room_1.cells := by omega
    have hnn : n + 6 ≤ room_1.slots := by omega
    refine j_istore (L' := [(6, .int 1), (5, .int i), (4, .ref od), (3, .ref o), (2, .ref (am 0)), (1, .ref (ad 0)), (0, .ref b)]) (pc := 1175) g dL_law_1175 (Nat.le_of_ble_eq_true rfl) rfl ?_
    refine j_aload_n (pc := 1177) g 4 dL_law_1177 rfl ?_
    refine j_aload_n (pc := 1178) g 6 dL_law_1178 rfl ?_
    refine j_iload (pc := 1179) g 1 dL_law_1179 rfl ?_
    refine j_iconst (v := 1) (pc := 1181) g dL_law_1181 (by decide) ?_
    refine j_iadd (pc := 1182) g dL_law_1182 ?_
    refine j_sld (pc := 1183) gl h1 dL_law_1183 ?_
    refine j_callVi (pc := 1184) (na := 1) (As := [.int (xs (i + 1).toNatClampNeg)]) (rest := []) (q0 := 2) (ci := 10) (w' := ((o, .inl (t 4, 1, .inr (.inl fo))) :: (od, .inl (t 5, 1, .inr (.inr (.inr (.inl fd))))) :: (mC am t σm1 ++ kW aa ad t σk1 []))) g (cX9_depth_ (rs := (o, .inl (t 4, 1, .inr (.inl fo))) :: (od, .inl (t 5, 1, .inr (.inr (.inr (.inl fd))))) :: kW aa ad t σk1 []) hm) q_i_X9_depth q_s_X9_depth rfl rfl rfl q_c_X9_depth q_l_L_217 q_n_X9 (by decide +kernel) rfl ⟨Nat.le_of_ble_eq_true rfl, Nat.le_of_ble_eq_true rfl⟩ ⟨hkk, hnn⟩ (Nat.le_of_ble_eq_true rfl) (lw_pm_m aa ad am t σk1 σm _ _) (lw_pm_m aa ad am t σk1 σm1 _ _).symm dL_law_1184 ?_ rfl
    refine j_istore (L' := [(7, .int r), (6, .int 1), (5, .int i), (4, .ref od), (3, .ref o), (2, .ref (am 0)), (1, .ref (ad 0)), (0, .ref b)]) (pc := 1187) g dL_law_1187 (Nat.le_of_ble_eq_true rfl) rfl ?_
    refine j_aload_n (pc := 1189) g 5 dL_law_1189 rfl ?_
    refine j_callVi (pc := 1190) (na := 0) (As := []) (rest := []) (q0 := 2) (ci := 10) (w' := ((o, .inl (t 4, 1, .inr (.inl fo))) :: (od, .inl (t 5, 1, .inr (.inr (.inr (.inl fd))))) :: (mC am t σm1 ++ kW aa ad t σk1 []))) g (cX9_thrown_ (rs := (o, .inl (t 4, 1, .inr (.inl fo))) :: (od, .inl (t 5, 1, .inr (.inr (.inr (.inl fd))))) :: kW aa ad t σk1 []) rfl) q_i_X9_thrown q_s_X9_thrown rfl rfl rfl q_c_X9_thrown q_l_L_155 q_n_X9 (by decide +kernel) rfl ⟨Nat.le_of_ble_eq_true rfl, Nat.le_of_ble_eq_true rfl⟩ ⟨hkk, hnn⟩ (Nat.le_of_ble_eq_true rfl) (lw_pm_m aa ad am t σk1 σm1 _ _) (lw_pm_m aa ad am t σk1 σm1 _ _).symm dL_law_1190 ?_ rfl
    refine j_iload (pc := 1193) g 1 dL_law_1193 rfl ?_
    refine j_icmp_eq (tgt := 1200) (pc := 1195) g dL_law_1195 (by decide) (fun _ => ?_) (fun h9 => absurd h0 h9)
    refine j_iload (pc := 1200) g 1 dL_law_1200 rfl ?_
    refine j_if_ne (tgt := 1217) (pc := 1202) g dL_law_1202 (by decide) (fun _ => ?_) (fun h9 => absurd h9 (by decide))
    refine j_goto (tgt := 2781) (pc := 1217) g dL_law_1217 (by decide) ?_
    refine j_sub (pc := 2781) g [2, 3, 4, 5, 6, 7] rfl ?_
    exact j_widen g (by omega) (by omega) (next σk1 σm1 fo fd hR)
set_option maxRecDepth 100000 in
set_option maxHeartbeats 4000000 in
theorem lw_c18 {D : va_G} {t : Nat → ClassId} {aa : gx_AA} {l : Launch} {J : gx_J} {b Ln : Nat} {xs : Nat → Int32} (gl : gx_GL D t (gx_E0 aa) l room_1 cL_law RL 10 J b Ln xs) (hst : l.stackTraces = false) {k n : Nat} (hk : k + 1 ≤ room_1.cells) (hn : n + 6 ≤ room_1.slots) {i : Int32} (h1 : vp_in (i + 1) Ln) (h2 : vp_in (i + 2) Ln) (h3 : vp_in (i + 3) Ln) {ad am : Nat → Nat} {o od : Nat} {σk : CS} {σm : OS} {fo : Nat → Int64} {fd : Nat → UInt64} {R : CS → OS → Prop} (hag : Ag_depthFromTop R σk σm (xs (i + 1).toNatClampNeg)) (next : ∀ (σk2 : CS) (σm2 : OS) (fo2 : Nat → Int64) (fd2 : Nat → UInt64), R σk2 σm2 → J (k + 1) (n + 6) ((o, .inl (t 4, 1, .inr (.inl fo2))) :: (od, .inl (t 5, 1, .inr (.inr (.inr (.inl fd2))))) :: (mC am t σm2 ++ kW aa ad t σk2 [])) 2781 [(5, .int i), (4, .ref od), (3, .ref o), (2, .ref (am 0)), (1, .ref (ad 0)), (0, .ref b)] []) : J k n ((o, .inl (t 4, 1, .inr (.inl fo))) :: (od, .inl (t 5, 1, .inr (.inr (.inr (.inl fd))))) :: (mC am t σm ++ kW aa ad t σk [])) 1220 [(5, .int i), (4, .ref od), (3, .ref o), (2, .ref (am 0)), (1, .ref (ad 0)), (0, .ref b)] [] := by
  have g := gl.g
  have hkk : k ≤ room_1.cells := by omega
  have hnn : n ≤ room_1.slots := by omega
  obtain ⟨r, σm1, hm, hag⟩ := hag
  rcases hag with ⟨σk1, hf, h0, hR⟩ | ⟨σk1, hf, h0, hR⟩
  · refine j_aload_n (pc := 1220) g 4 dL_law_1220 rfl ?_
    refine j_aload_n (pc := 1221) g 5 dL_law_1221 rfl ?_
    refine j_iload (pc := 1222) g 0 dL_law_1222 rfl ?_
    refine j_iconst (v := 1) (pc := 1224) g dL_law_1224 (by decide) ?_
    refine j_iadd (pc := 1225) g dL_law_1225 ?_
    refine j_sld (pc := 1226) gl h1 dL_law_1226 ?_
    refine j_aload_n (pc := 1227) g 2 dL_law_1227 rfl ?_
    refine j_callH (pc := 1228) (na := 3) (As := [.ref (ad 0), .int (xs (i + 1).toNatClampNeg), .ref o]) (rest := []) (r := 0) (w' := ((o, .inl (t 4, 1, .inr (.inl (vp_updL fo (0 : Int32).toNatClampNeg r.toInt64)))) :: (od, .inl (t 5, 1, .inr (.inr (.inr (.inl fd))))) :: (mC am t σm ++ kW aa ad t σk1 []))) g (hL_depthFromTop_ok (rs := (od, .inl (t 5, 1, .inr (.inr (.inr (.inl fd))))) :: mC am t σm) hst hf) q_t_L_depthFromTop q_w_L_depthFromTop q_l_L_218 q_n_L (by decide) (by decide +kernel) rfl ⟨Nat.le_of_ble_eq_true rfl, Nat.le_of_ble_eq_true rfl⟩ ⟨by omega, by omega⟩ (Nat.le_of_ble_eq_true rfl) (lw_pm_h aa ad am t σk σm _ _) (lw_pm_h aa ad am t σk1 σm _ _).symm dL_law_1228 ?_ rfl
    have hkk : k + 0 ≤ room_1.cells := by omega
    have hnn : n + 0 ≤ room_1.slots := by omega
    refine j_istore (L' := [(6, .int 0), (5, .int i), (4, .ref od), (3, .ref o), (2, .ref (am 0)), (1, .ref (ad 0)), (0, .ref b)]) (pc := 1231) g dL_law_1231 (Nat.le_of_ble_eq_true rfl) rfl ?_
    refine j_aload_n (pc := 1233) g 4 dL_law_1233 rfl ?_
    refine j_aload_n (pc := 1234) g 6 dL_law_1234 rfl ?_
    refine j_iload (pc := 1235) g 1 dL_law_1235 rfl ?_
    refine j_iconst (v := 1) (pc := 1237) g dL_law_1237 (by decide) ?_
    refine j_iadd (pc := 1238) g dL_law_1238 ?_
    refine j_sld (pc := 1239) gl h1 dL_law_1239 ?_
    refine j_callVi (pc := 1240) (na := 1) (As := [.int (xs (i + 1).toNatClampNeg)]) (rest := []) (q0 := 2) (ci := 10) (w' := ((o, .inl (t 4, 1, .inr (.inl (vp_updL fo (0 : Int32).toNatClampNeg r.toInt64)))) :: (od, .inl (t 5, 1, .inr (.inr (.inr (.inl fd))))) :: (mC am t σm1 ++ kW aa ad t σk1 []))) g (cX9_depthFromTop_ (rs := (o, .inl (t 4, 1, .inr (.inl (vp_updL fo (0 : Int32).toNatClampNeg r.toInt64)))) :: (od, .inl (t 5, 1, .inr (.inr (.inr (.inl fd))))) :: kW aa ad t σk1 []) hm) q_i_X9_depthFromTop q_s_X9_depthFromTop rfl rfl rfl q_c_X9_depthFromTop q_l_L_220 q_n_X9 (by decide +kernel) rfl ⟨Nat.le_of_ble_eq_true rfl, Nat.le_of_ble_eq_true rfl⟩ ⟨hkk, hnn⟩ (Nat.le_of_ble_eq_true rfl) (lw_pm_m aa ad am t σk1 σm _ _) (lw_pm_m aa ad am t σk1 σm1 _ _).symm dL_law_1240 ?_ rfl
    refine j_istore (L' := [(7, .int r), (6, .int 0), (5, .int i), (4, .ref od), (3, .ref o), (2, .ref (am 0)), (1, .ref (ad 0)), (0, .ref b)]) (pc := 1243) g dL_law_1243 (Nat.le_of_ble_eq_true rfl) rfl ?_
    refine j_aload_n (pc := 1245) g 5 dL_law_1245 rfl ?_
    refine j_callVi (pc := 1246) (na := 0) (As := []) (rest := []) (q0 := 2) (ci := 10) (w' := ((o, .inl (t 4, 1, .inr (.inl (vp_updL fo (0 : Int32).toNatClampNeg r.toInt64)))) :: (od, .inl (t 5, 1, .inr (.inr (.inr (.inl fd))))) :: (mC am t σm1 ++ kW aa ad t σk1 []))) g (cX9_thrown_ (rs := (o, .inl (t 4, 1, .inr (.inl (vp_updL fo (0 : Int32).toNatClampNeg r.toInt64)))) :: (od, .inl (t 5, 1, .inr (.inr (.inr (.inl fd))))) :: kW aa ad t σk1 []) rfl) q_i_X9_thrown q_s_X9_thrown rfl rfl rfl q_c_X9_thrown q_l_L_155 q_n_X9 (by decide +kernel) rfl ⟨Nat.le_of_ble_eq_true rfl, Nat.le_of_ble_eq_true rfl⟩ ⟨hkk, hnn⟩ (Nat.le_of_ble_eq_true rfl) (lw_pm_m aa ad am t σk1 σm1 _ _) (lw_pm_m aa ad am t σk1 σm1 _ _).symm dL_law_1246 ?_ rfl
    refine j_iload (pc := 1249) g 1 dL_law_1249 rfl ?_
    refine j_icmp_eq (tgt := 1256) (pc := 1251) g dL_law_1251 (by decide) (fun _ => ?_) (fun h9 => absurd h0 h9)
    refine j_iload (pc := 1256) g 1 dL_law_1256 rfl ?_
    refine j_if_ne (tgt := 1273) (pc := 1258) g dL_law_1258 (by decide) (fun h9 => absurd rfl h9) (fun _ => ?_)
    refine j_aload_n (pc := 1261) g 4 dL_law_1261 rfl ?_
    refine j_iconst (v := 0) (pc := 1262) g dL_law_1262 (by decide) ?_
    refine j_lald (pc := 1263) g 0 rfl (show gx_in (0 : Int32) 1 by decide) dL_law_1263 ?_
    refine j_iload (pc := 1264) g 0 dL_law_1264 rfl ?_
    refine j_i2l (pc := 1266) g dL_law_1266 ?_
    refine j_lcmp (pc := 1267) g dL_law_1267 ?_
    refine j_if_eq (tgt := 1273) (pc := 1268) g dL_law_1268 (by decide) (fun _ => ?_) (fun h9 => absurd (lw_cmp0 _) h9)
    refine j_goto (tgt := 2781) (pc := 1273) g dL_law_1273 (by decide) ?_
    refine j_sub (pc := 2781) g [2, 3, 4, 5, 6, 7] rfl ?_
    exact j_widen g (by omega) (by omega) (next σk1 σm1 (vp_updL fo (0 : Int32).toNatClampNeg r.toInt64) fd hR)
  · refine j_aload_n (pc := 1220) g 4 dL_law_1220 rfl ?_
    refine j_aload_n (pc := 1221) g 5 dL_law_1221 rfl ?_
    refine j_iload (pc := 1222) g 0 dL_law_1222 rfl ?_
    refine j_iconst (v := 1) (pc := 1224) g dL_law_1224 (by decide) ?_
    refine j_iadd (pc := 1225) g dL_law_1225 ?_
    refine j_sld (pc := 1226) gl h1 dL_law_1226 ?_
    refine j_aload_n (pc := 1227) g 2 dL_law_1227 rfl ?_
    refine j_callH (pc := 1228) (na := 3) (As := [.ref (ad 0), .int (xs (i + 1).toNatClampNeg), .ref o]) (rest := []) (r := 1) (w' := ((o, .inl (t 4, 1, .inr (.inl fo))) :: (od, .inl (t 5, 1, .inr (.inr (.inr (.inl fd))))) :: (mC am t σm ++ kW aa ad t σk1 []))) g (hL_depthFromTop_x1 (rs := (od, .inl (t 5, 1, .inr (.inr (.inr (.inl fd))))) :: mC am t σm) hst hf) q_t_L_depthFromTop q_w_L_depthFromTop q_l_L_218 q_n_L (by decide) (by decide +kernel) rfl ⟨Nat.le_of_ble_eq_true rfl, Nat.le_of_ble_eq_true rfl⟩ ⟨by omega, by omega⟩ (Nat.le_of_ble_eq_true rfl) (lw_pm_h aa ad am t σk σm _ _) (lw_pm_h aa ad am t σk1 σm _ _).symm dL_law_1228 ?_ rfl
    have hkk : k + 1 ≤ room_1.cells := by omega
    have hnn : n + 6 ≤ room_1.slots := by omega
    refine j_istore (L' := [(6, .int 1), (5, .int i), (4, .ref od), (3, .ref o), (2, .ref (am 0)), (1, .ref (ad 0)), (0, .ref b)]) (pc := 1231) g dL_law_1231 (Nat.le_of_ble_eq_true rfl) rfl ?_
    refine j_aload_n (pc := 1233) g 4 dL_law_1233 rfl ?_
    refine j_aload_n (pc := 1234) g 6 dL_law_1234 rfl ?_
    refine j_iload (pc := 1235) g 1 dL_law_1235 rfl ?_
    refine j_iconst (v := 1) (pc := 1237) g dL_law_1237 (by decide) ?_
    refine j_iadd (pc := 1238) g dL_law_1238 ?_
    refine j_sld (pc := 1239) gl h1 dL_law_1239 ?_
    refine j_callVi (pc := 1240) (na := 1) (As := [.int (xs (i + 1).toNatClampNeg)]) (rest := []) (q0 := 2) (ci := 10) (w' := ((o, .inl (t 4, 1, .inr (.inl fo))) :: (od, .inl (t 5, 1, .inr (.inr (.inr (.inl fd))))) :: (mC am t σm1 ++ kW aa ad t σk1 []))) g (cX9_depthFromTop_ (rs := (o, .inl (t 4, 1, .inr (.inl fo))) :: (od, .inl (t 5, 1, .inr (.inr (.inr (.inl fd))))) :: kW aa ad t σk1 []) hm) q_i_X9_depthFromTop q_s_X9_depthFromTop rfl rfl rfl q_c_X9_depthFromTop q_l_L_220 q_n_X9 (by decide +kernel) rfl ⟨Nat.le_of_ble_eq_true rfl, Nat.le_of_ble_eq_true rfl⟩ ⟨hkk, hnn⟩ (Nat.le_of_ble_eq_true rfl) (lw_pm_m aa ad am t σk1 σm _ _) (lw_pm_m aa ad am t σk1 σm1 _ _).symm dL_law_1240 ?_ rfl
    refine j_istore (L' := [(7, .int r), (6, .int 1), (5, .int i), (4, .ref od), (3, .ref o), (2, .ref (am 0)), (1, .ref (ad 0)), (0, .ref b)]) (pc := 1243) g dL_law_1243 (Nat.le_of_ble_eq_true rfl) rfl ?_
    refine j_aload_n (pc := 1245) g 5 dL_law_1245 rfl ?_
    refine j_callVi (pc := 1246) (na := 0) (As := []) (rest := []) (q0 := 2) (ci := 10) (w' := ((o, .inl (t 4, 1, .inr (.inl fo))) :: (od, .inl (t 5, 1, .inr (.inr (.inr (.inl fd))))) :: (mC am t σm1 ++ kW aa ad t σk1 []))) g (cX9_thrown_ (rs := (o, .inl (t 4, 1, .inr (.inl fo))) :: (od, .inl (t 5, 1, .inr (.inr (.inr (.inl fd))))) :: kW aa ad t σk1 []) rfl) q_i_X9_thrown q_s_X9_thrown rfl rfl rfl q_c_X9_thrown q_l_L_155 q_n_X9 (by decide +kernel) rfl ⟨Nat.le_of_ble_eq_true rfl, Nat.le_of_ble_eq_true rfl⟩ ⟨hkk, hnn⟩ (Nat.le_of_ble_eq_true rfl) (lw_pm_m aa ad am t σk1 σm1 _ _) (lw_pm_m aa ad am t σk1 σm1 _ _).symm dL_law_1246 ?_ rfl
    refine j_iload (pc := 1249) g 1 dL_law_1249 rfl ?_
    refine j_icmp_eq (tgt := 1256) (pc := 1251) g dL_law_1251 (by decide) (fun _ => ?_) (fun h9 => absurd h0 h9)
    refine j_iload (pc := 1256) g 1 dL_law_1256 rfl ?_
    refine j_if_ne (tgt := 1273) (pc := 1258) g dL_law_1258 (by decide) (fun _ => ?_) (fun h9 => absurd h9 (by decide))
    refine j_goto (tgt := 2781) (pc := 1273) g dL_law_1273 (by decide) ?_
    refine j_sub (pc := 2781) g [2, 3, 4, 5, 6, 7] rfl ?_
    exact j_widen g (by omega) (by omega) (next σk1 σm1 fo fd hR)
set_option maxRecDepth 100000 in
set_option maxHeartbeats 4000000 in
theorem lw_c19 {D : va_G} {t : Nat → ClassId} {aa : gx_AA} {l : Launch} {J : gx_J} {b Ln : Nat} {xs : Nat → Int32} (gl : gx_GL D t (gx_E0 aa) l room_1 cL_law RL 10 J b Ln xs) (hst : l.stackTraces = false) {k n : Nat} (hk : k + 1 ≤ room_1.cells) (hn : n + 6 ≤ room_1.slots) {i : Int32} (h1 : vp_in (i + 1) Ln) (h2 : vp_in (i + 2) Ln) (h3 : vp_in (i + 3) Ln) {ad am : Nat → Nat} {o od : Nat} {σk : CS} {σm : OS} {fo : Nat → Int64} {fd : Nat → UInt64} {R : CS → OS → Prop} (hag : Ag_commandSize R σk σm (xs (i + 1).toNatClampNeg)) (next : ∀ (σk2 : CS) (σm2 : OS) (fo2 : Nat → Int64) (fd2 : Nat → UInt64), R σk2 σm2 → J (k + 1) (n + 6) ((o, .inl (t 4, 1, .inr (.inl fo2))) :: (od, .inl (t 5, 1, .inr (.inr (.inr (.inl fd2))))) :: (mC am t σm2 ++ kW aa ad t σk2 [])) 2781 [(5, .int i), (4, .ref od), (3, .ref o), (2, .ref (am 0)), (1, .ref (ad 0)), (0, .ref b)] []) : J k n ((o, .inl (t 4, 1, .inr (.inl fo))) :: (od, .inl (t 5, 1, .inr (.inr (.inr (.inl fd))))) :: (mC am t σm ++ kW aa ad t σk [])) 1276 [(5, .int i), (4, .ref od), (3, .ref o), (2, .ref (am 0)), (1, .ref (ad 0)), (0, .ref b)] [] := by
  have g := gl.g
  have hkk : k ≤ room_1.cells := by omega
  have hnn : n ≤ room_1.slots := by omega
  obtain ⟨r, σm1, hm, hag⟩ := hag
  rcases hag with ⟨σk1, hf, h0, hR⟩ | ⟨σk1, hf, h0, hR⟩
  · refine j_aload_n (pc := 1276) g 4 dL_law_1276 rfl ?_
    refine j_aload_n (pc := 1277) g 5 dL_law_1277 rfl ?_
    refine j_iload (pc := 1278) g 0 dL_law_1278 rfl ?_
    refine j_iconst (v := 1) (pc := 1280) g dL_law_1280 (by decide) ?_
    refine j_iadd (pc := 1281) g dL_law_1281 ?_
    refine j_sld (pc := 1282) gl h1 dL_law_1282 ?_
    refine j_aload_n (pc := 1283) g 2 dL_law_1283 rfl ?_
    refine j_callH (pc := 1284) (na := 3) (As := [.ref (ad 0), .int (xs (i + 1).toNatClampNeg), .ref o]) (rest := []) (r := 0) (w' := ((o, .inl (t 4, 1, .inr (.inl (vp_updL fo (0 : Int32).toNatClampNeg r.toInt64)))) :: (od, .inl (t 5, 1, .inr (.inr (.inr (.inl fd))))) :: (mC am t σm ++ kW aa ad t σk1 []))) g (hL_commandSize_ok (rs := (od, .inl (t 5, 1, .inr (.inr (.inr (.inl fd))))) :: mC am t σm) hst hf) q_t_L_commandSize q_w_L_commandSize q_l_L_221 q_n_L (by decide) (by decide +kernel) rfl ⟨Nat.le_of_ble_eq_true rfl, Nat.le_of_ble_eq_true rfl⟩ ⟨by omega, by omega⟩ (Nat.le_of_ble_eq_true rfl) (lw_pm_h aa ad am t σk σm _ _) (lw_pm_h aa ad am t σk1 σm _ _).symm dL_law_1284 ?_ rfl
    have hkk : k + 0 ≤ room_1.cells := by omega
    have hnn : n + 0 ≤ room_1.slots := by omega
    refine j_istore (L' := [(6, .int 0), (5, .int i), (4, .ref od), (3, .ref o), (2, .ref (am 0)), (1, .ref (ad 0)), (0, .ref b)]) (pc := 1287) g dL_law_1287 (Nat.le_of_ble_eq_true rfl) rfl ?_
    refine j_aload_n (pc := 1289) g 4 dL_law_1289 rfl ?_
    refine j_aload_n (pc := 1290) g 6 dL_law_1290 rfl ?_
    refine j_iload (pc := 1291) g 1 dL_law_1291 rfl ?_
    refine j_iconst (v := 1) (pc := 1293) g dL_law_1293 (by decide) ?_
    refine j_iadd (pc := 1294) g dL_law_1294 ?_
    refine j_sld (pc := 1295) gl h1 dL_law_1295 ?_
    refine j_callVi (pc := 1296) (na := 1) (As := [.int (xs (i + 1).toNatClampNeg)]) (rest := []) (q0 := 2) (ci := 10) (w' := ((o, .inl (t 4, 1, .inr (.inl (vp_updL fo (0 : Int32).toNatClampNeg r.toInt64)))) :: (od, .inl (t 5, 1, .inr (.inr (.inr (.inl fd))))) :: (mC am t σm1 ++ kW aa ad t σk1 []))) g (cX9_commandSize_ (rs := (o, .inl (t 4, 1, .inr (.inl (vp_updL fo (0 : Int32).toNatClampNeg r.toInt64)))) :: (od, .inl (t 5, 1, .inr (.inr (.inr (.inl fd))))) :: kW aa ad t σk1 []) hm) q_i_X9_commandSize q_s_X9_commandSize rfl rfl rfl q_c_X9_commandSize q_l_L_223 q_n_X9 (by decide +kernel) rfl ⟨Nat.le_of_ble_eq_true rfl, Nat.le_of_ble_eq_true rfl⟩ ⟨hkk, hnn⟩ (Nat.le_of_ble_eq_true rfl) (lw_pm_m aa ad am t σk1 σm _ _) (lw_pm_m aa ad am t σk1 σm1 _ _).symm dL_law_1296 ?_ rfl
    refine j_istore (L' := [(7, .int r), (6, .int 0), (5, .int i), (4, .ref od), (3, .ref o), (2, .ref (am 0)), (1, .ref (ad 0)), (0, .ref b)]) (pc := 1299) g dL_law_1299 (Nat.le_of_ble_eq_true rfl) rfl ?_
    refine j_aload_n (pc := 1301) g 5 dL_law_1301 rfl ?_
    refine j_callVi (pc := 1302) (na := 0) (As := []) (rest := []) (q0 := 2) (ci := 10) (w' := ((o, .inl (t 4, 1, .inr (.inl (vp_updL fo (0 : Int32).toNatClampNeg r.toInt64)))) :: (od, .inl (t 5, 1, .inr (.inr (.inr (.inl fd))))) :: (mC am t σm1 ++ kW aa ad t σk1 []))) g (cX9_thrown_ (rs := (o, .inl (t 4, 1, .inr (.inl (vp_updL fo (0 : Int32).toNatClampNeg r.toInt64)))) :: (od, .inl (t 5, 1, .inr (.inr (.inr (.inl fd))))) :: kW aa ad t σk1 []) rfl) q_i_X9_thrown q_s_X9_thrown rfl rfl rfl q_c_X9_thrown q_l_L_155 q_n_X9 (by decide +kernel) rfl ⟨Nat.le_of_ble_eq_true rfl, Nat.le_of_ble_eq_true rfl⟩ ⟨hkk, hnn⟩ (Nat.le_of_ble_eq_true rfl) (lw_pm_m aa ad am t σk1 σm1 _ _) (lw_pm_m aa ad am t σk1 σm1 _ _).symm dL_law_1302 ?_ rfl
    refine j_iload (pc := 1305) g 1 dL_law_1305 rfl ?_
    refine j_icmp_eq (tgt := 1312) (pc := 1307) g dL_law_1307 (by decide) (fun _ => ?_) (fun h9 => absurd h0 h9)
    refine j_iload (pc := 1312) g 1 dL_law_1312 rfl ?_
    refine j_if_ne (tgt := 1329) (pc := 1314) g dL_law_1314 (by decide) (fun h9 => absurd rfl h9) (fun _ => ?_)
    refine j_aload_n (pc := 1317) g 4 dL_law_1317 rfl ?_
    refine j_iconst (v := 0) (pc := 1318) g dL_law_1318 (by decide) ?_
    refine j_lald (pc := 1319) g 0 rfl (show gx_in (0 : Int32) 1 by decide) dL_law_1319 ?_
    refine j_iload (pc := 1320) g 0 dL_law_1320 rfl ?_
    refine j_i2l (pc := 1322) g dL_law_1322 ?_
    refine j_lcmp (pc := 1323) g dL_law_1323 ?_
    refine j_if_eq (tgt := 1329) (pc := 1324) g dL_law_1324 (by decide) (fun _ => ?_) (fun h9 => absurd (lw_cmp0 _) h9)
    refine j_goto (tgt := 2781) (pc := 1329) g dL_law_1329 (by decide) ?_
    refine j_sub (pc := 2781) g [2, 3, 4, 5, 6, 7] rfl ?_
    exact j_widen g (by omega) (by omega) (next σk1 σm1 (vp_updL fo (0 : Int32).toNatClampNeg r.toInt64) fd hR)
  · refine j_aload_n (pc := 1276) g 4 dL_law_1276 rfl ?_
    refine j_aload_n (pc := 1277) g 5 dL_law_1277 rfl ?_
    refine j_iload (pc := 1278) g 0 dL_law_1278 rfl ?_
    refine j_iconst (v := 1) (pc := 1280) g dL_law_1280 (by decide) ?_
    refine j_iadd (pc := 1281) g dL_law_1281 ?_
    refine j_sld (pc := 1282) gl h1 dL_law_1282 ?_
    refine j_aload_n (pc := 1283) g 2 dL_law_1283 rfl ?_
    refine j_callH (pc := 1284) (na := 3) (As := [.ref (ad 0), .int (xs (i + 1).toNatClampNeg), .ref o]) (rest := []) (r := 1) (w' := ((o, .inl (t 4, 1, .inr (.inl fo))) :: (od, .inl (t 5, 1, .inr (.inr (.inr (.inl fd))))) :: (mC am t σm ++ kW aa ad t σk1 []))) g (hL_commandSize_x1 (rs := (od, .inl (t 5, 1, .inr (.inr (.inr (.inl fd))))) :: mC am t σm) hst hf) q_t_L_commandSize q_w_L_commandSize q_l_L_221 q_n_L (by decide) (by decide +kernel) rfl ⟨Nat.le_of_ble_eq_true rfl, Nat.le_of_ble_eq_true rfl⟩ ⟨by omega, by omega⟩ (Nat.le_of_ble_eq_true rfl) (lw_pm_h aa ad am t σk σm _ _) (lw_pm_h aa ad am t σk1 σm _ _).symm dL_law_1284 ?_ rfl
    have hkk : k + 1 ≤ room_1.cells := by omega
    have hnn : n + 6 ≤ room_1.slots := by omega
    refine j_istore (L' := [(6, .int 1), (5, .int i), (4, .ref od), (3, .ref o), (2, .ref (am 0)), (1, .ref (ad 0)), (0, .ref b)]) (pc := 1287) g dL_law_1287 (Nat.le_of_ble_eq_true rfl) rfl ?_
    refine j_aload_n (pc := 1289) g 4 dL_law_1289 rfl ?_
    refine j_aload_n (pc := 1290) g 6 dL_law_1290 rfl ?_
    refine j_iload (pc := 1291) g 1 dL_law_1291 rfl ?_
    refine j_iconst (v := 1) (pc := 1293) g dL_law_1293 (by decide) ?_
    refine j_iadd (pc := 1294) g dL_law_1294 ?_
    refine j_sld (pc := 1295) gl h1 dL_law_1295 ?_
    refine j_callVi (pc := 1296) (na := 1) (As := [.int (xs (i + 1).toNatClampNeg)]) (rest := []) (q0 := 2) (ci := 10) (w' := ((o, .inl (t 4, 1, .inr (.inl fo))) :: (od, .inl (t 5, 1, .inr (.inr (.inr (.inl fd))))) :: (mC am t σm1 ++ kW aa ad t σk1 []))) g (cX9_commandSize_ (rs := (o, .inl (t 4, 1, .inr (.inl fo))) :: (od, .inl (t 5, 1, .inr (.inr (.inr (.inl fd))))) :: kW aa ad t σk1 []) hm) q_i_X9_commandSize q_s_X9_commandSize rfl rfl rfl q_c_X9_commandSize q_l_L_223 q_n_X9 (by decide +kernel) rfl ⟨Nat.le_of_ble_eq_true rfl, Nat.le_of_ble_eq_true rfl⟩ ⟨hkk, hnn⟩ (Nat.le_of_ble_eq_true rfl) (lw_pm_m aa ad am t σk1 σm _ _) (lw_pm_m aa ad am t σk1 σm1 _ _).symm dL_law_1296 ?_ rfl
    refine j_istore (L' := [(7, .int r), (6, .int 1), (5, .int i), (4, .ref od), (3, .ref o), (2, .ref (am 0)), (1, .ref (ad 0)), (0, .ref b)]) (pc := 1299) g dL_law_1299 (Nat.le_of_ble_eq_true rfl) rfl ?_
    refine j_aload_n (pc := 1301) g 5 dL_law_1301 rfl ?_
    refine j_callVi (pc := 1302) (na := 0) (As := []) (rest := []) (q0 := 2) (ci := 10) (w' := ((o, .inl (t 4, 1, .inr (.inl fo))) :: (od, .inl (t 5, 1, .inr (.inr (.inr (.inl fd))))) :: (mC am t σm1 ++ kW aa ad t σk1 []))) g (cX9_thrown_ (rs := (o, .inl (t 4, 1, .inr (.inl fo))) :: (od, .inl (t 5, 1, .inr (.inr (.inr (.inl fd))))) :: kW aa ad t σk1 []) rfl) q_i_X9_thrown q_s_X9_thrown rfl rfl rfl q_c_X9_thrown q_l_L_155 q_n_X9 (by decide +kernel) rfl ⟨Nat.le_of_ble_eq_true rfl, Nat.le_of_ble_eq_true rfl⟩ ⟨hkk, hnn⟩ (Nat.le_of_ble_eq_true rfl) (lw_pm_m aa ad am t σk1 σm1 _ _) (lw_pm_m aa ad am t σk1 σm1 _ _).symm dL_law_1302 ?_ rfl
    refine j_iload (pc := 1305) g 1 dL_law_1305 rfl ?_
    refine j_icmp_eq (tgt := 1312) (pc := 1307) g dL_law_1307 (by decide) (fun _ => ?_) (fun h9 => absurd h0 h9)
    refine j_iload (pc := 1312) g 1 dL_law_1312 rfl ?_
    refine j_if_ne (tgt := 1329) (pc := 1314) g dL_law_1314 (by decide) (fun _ => ?_) (fun h9 => absurd h9 (by decide))
    refine j_goto (tgt := 2781) (pc := 1329) g dL_law_1329 (by decide) ?_
    refine j_sub (pc := 2781) g [2, 3, 4, 5, 6, 7] rfl ?_
    exact j_widen g (by omega) (by omega) (next σk1 σm1 fo fd hR)
set_option maxRecDepth 100000 in
set_option maxHeartbeats 4000000 in
theorem lw_c20 {D : va_G} {t : Nat → ClassId} {aa : gx_AA} {l : Launch} {J : gx_J} {b Ln : Nat} {xs : Nat → Int32} (gl : gx_GL D t (gx_E0 aa) l room_1 cL_law RL 10 J b Ln xs) (hst : l.stackTraces = false) {k n : Nat} (hk : k + 1 ≤ room_1.cells) (hn : n + 6 ≤ room_1.slots) {i : Int32} (h1 : vp_in (i + 1) Ln) (h2 : vp_in (i + 2) Ln) (h3 : vp_in (i + 3) Ln) {ad am : Nat → Nat} {o od : Nat} {σk : CS} {σm : OS} {fo : Nat → Int64} {fd : Nat → UInt64} {R : CS → OS → Prop} (hag : Ag_commandSizeByCounting R σk σm (xs (i + 1).toNatClampNeg)) (next : ∀ (σk2 : CS) (σm2 : OS) (fo2 : Nat → Int64) (fd2 : Nat → UInt64), R σk2 σm2 → J (k + 1) (n + 6) ((o, .inl (t 4, 1, .inr (.inl fo2))) :: (od, .inl (t 5, 1, .inr (.inr (.inr (.inl fd2))))) :: (mC am t σm2 ++ kW aa ad t σk2 [])) 2781 [(5, .int i), (4, .ref od), (3, .ref o), (2, .ref (am 0)), (1, .ref (ad 0)), (0, .ref b)] []) : J k n ((o, .inl (t 4, 1, .inr (.inl fo))) :: (od, .inl (t 5, 1, .inr (.inr (.inr (.inl fd))))) :: (mC am t σm ++ kW aa ad t σk [])) 1332 [(5, .int i), (4, .ref od), (3, .ref o), (2, .ref (am 0)), (1, .ref (ad 0)), (0, .ref b)] [] := by
  have g := gl.g
  have hkk : k ≤ room_1.cells := by omega
  have hnn : n ≤ room_1.slots := by omega
  obtain ⟨r, σm1, hm, hag⟩ := hag
  rcases hag with ⟨σk1, hf, h0, hR⟩ | ⟨σk1, hf, h0, hR⟩
  · refine j_aload_n (pc := 1332) g 4 dL_law_1332 rfl ?_
    refine j_aload_n (pc := 1333) g 5 dL_law_1333 rfl ?_
    refine j_iload (pc := 1334) g 0 dL_law_1334 rfl ?_
    refine j_iconst (v := 1) (pc := 1336) g dL_law_1336 (by decide) ?_
    refine j_iadd (pc := 1337) g dL_law_1337 ?_
    refine j_sld (pc := 1338) gl h1 dL_law_1338 ?_
    refine j_aload_n (pc := 1339) g 2 dL_law_1339 rfl ?_
    refine j_callH (pc := 1340) (na := 3) (As := [.ref (ad 0), .int (xs (i + 1).toNatClampNeg), .ref o]) (rest := []) (r := 0) (w' := ((o, .inl (t 4, 1, .inr (.inl (vp_updL fo (0 : Int32).toNatClampNeg r.toInt64)))) :: (od, .inl (t 5, 1, .inr (.inr (.inr (.inl fd))))) :: (mC am t σm ++ kW aa ad t σk1 []))) g (hL_commandSizeByCounting_ok (rs := (od, .inl (t 5, 1, .inr (.inr (.inr (.inl fd))))) :: mC am t σm) hst hf) q_t_L_commandSizeByCounting q_w_L_commandSizeByCounting q_l_L_224 q_n_L (by decide) (by decide +kernel) rfl ⟨Nat.le_of_ble_eq_true rfl, Nat.le_of_ble_eq_true rfl⟩ ⟨by omega, by omega⟩ (Nat.le_of_ble_eq_true rfl) (lw_pm_h aa ad am t σk σm _ _) (lw_pm_h aa ad am t σk1 σm _ _).symm dL_law_1340 ?_ rfl
    have hkk : k + 0 ≤ room_1.cells := by omega
    have hnn : n + 0 ≤ room_1.slots := by omega
    refine j_istore (L' := [(6, .int 0), (5, .int i), (4, .ref od), (3, .ref o), (2, .ref (am 0)), (1, .ref (ad 0)), (0, .ref b)]) (pc := 1343) g dL_law_1343 (Nat.le_of_ble_eq_true rfl) rfl ?_
    refine j_aload_n (pc := 1345) g 4 dL_law_1345 rfl ?_
    refine j_aload_n (pc := 1346) g 6 dL_law_1346 rfl ?_
    refine j_iload (pc := 1347) g 1 dL_law_1347 rfl ?_
    refine j_iconst (v := 1) (pc := 1349) g dL_law_1349 (by decide) ?_
    refine j_iadd (pc := 1350) g dL_law_1350 ?_
    refine j_sld (pc := 1351) gl h1 dL_law_1351 ?_
    refine j_callVi (pc := 1352) (na := 1) (As := [.int (xs (i + 1).toNatClampNeg)]) (rest := []) (q0 := 2) (ci := 10) (w' := ((o, .inl (t 4, 1, .inr (.inl (vp_updL fo (0 : Int32).toNatClampNeg r.toInt64)))) :: (od, .inl (t 5, 1, .inr (.inr (.inr (.inl fd))))) :: (mC am t σm1 ++ kW aa ad t σk1 []))) g (cX9_commandSizeByCounting_ (rs := (o, .inl (t 4, 1, .inr (.inl (vp_updL fo (0 : Int32).toNatClampNeg r.toInt64)))) :: (od, .inl (t 5, 1, .inr (.inr (.inr (.inl fd))))) :: kW aa ad t σk1 []) hm) q_i_X9_commandSizeByCounting q_s_X9_commandSizeByCounting rfl rfl rfl q_c_X9_commandSizeByCounting q_l_L_226 q_n_X9 (by decide +kernel) rfl ⟨Nat.le_of_ble_eq_true rfl, Nat.le_of_ble_eq_true rfl⟩ ⟨hkk, hnn⟩ (Nat.le_of_ble_eq_true rfl) (lw_pm_m aa ad am t σk1 σm _ _) (lw_pm_m aa ad am t σk1 σm1 _ _).symm dL_law_1352 ?_ rfl
    refine j_istore (L' := [(7, .int r), (6, .int 0), (5, .int i), (4, .ref od), (3, .ref o), (2, .ref (am 0)), (1, .ref (ad 0)), (0, .ref b)]) (pc := 1355) g dL_law_1355 (Nat.le_of_ble_eq_true rfl) rfl ?_
    refine j_aload_n (pc := 1357) g 5 dL_law_1357 rfl ?_
    refine j_callVi (pc := 1358) (na := 0) (As := []) (rest := []) (q0 := 2) (ci := 10) (w' := ((o, .inl (t 4, 1, .inr (.inl (vp_updL fo (0 : Int32).toNatClampNeg r.toInt64)))) :: (od, .inl (t 5, 1, .inr (.inr (.inr (.inl fd))))) :: (mC am t σm1 ++ kW aa ad t σk1 []))) g (cX9_thrown_ (rs := (o, .inl (t 4, 1, .inr (.inl (vp_updL fo (0 : Int32).toNatClampNeg r.toInt64)))) :: (od, .inl (t 5, 1, .inr (.inr (.inr (.inl fd))))) :: kW aa ad t σk1 []) rfl) q_i_X9_thrown q_s_X9_thrown rfl rfl rfl q_c_X9_thrown q_l_L_155 q_n_X9 (by decide +kernel) rfl ⟨Nat.le_of_ble_eq_true rfl, Nat.le_of_ble_eq_true rfl⟩ ⟨hkk, hnn⟩ (Nat.le_of_ble_eq_true rfl) (lw_pm_m aa ad am t σk1 σm1 _ _) (lw_pm_m aa ad am t σk1 σm1 _ _).symm dL_law_1358 ?_ rfl
    refine j_iload (pc := 1361) g 1 dL_law_1361 rfl ?_
    refine j_icmp_eq (tgt := 1368) (pc := 1363) g dL_law_1363 (by decide) (fun _ => ?_) (fun h9 => absurd h0 h9)
    refine j_iload (pc := 1368) g 1 dL_law_1368 rfl ?_
    refine j_if_ne (tgt := 1385) (pc := 1370) g dL_law_1370 (by decide) (fun h9 => absurd rfl h9) (fun _ => ?_)
    refine j_aload_n (pc := 1373) g 4 dL_law_1373 rfl ?_
    refine j_iconst (v := 0) (pc := 1374) g dL_law_1374 (by decide) ?_
    refine j_lald (pc := 1375) g 0 rfl (show gx_in (0 : Int32) 1 by decide) dL_law_1375 ?_
    refine j_iload (pc := 1376) g 0 dL_law_1376 rfl ?_
    refine j_i2l (pc := 1378) g dL_law_1378 ?_
    refine j_lcmp (pc := 1379) g dL_law_1379 ?_
    refine j_if_eq (tgt := 1385) (pc := 1380) g dL_law_1380 (by decide) (fun _ => ?_) (fun h9 => absurd (lw_cmp0 _) h9)
    refine j_goto (tgt := 2781) (pc := 1385) g dL_law_1385 (by decide) ?_
    refine j_sub (pc := 2781) g [2, 3, 4, 5, 6, 7] rfl ?_
    exact j_widen g (by omega) (by omega) (next σk1 σm1 (vp_updL fo (0 : Int32).toNatClampNeg r.toInt64) fd hR)
  · refine j_aload_n (pc := 1332) g 4 dL_law_1332 rfl ?_
    refine j_aload_n (pc := 1333) g 5 dL_law_1333 rfl ?_
    refine j_iload (pc := 1334) g 0 dL_law_1334 rfl ?_
    refine j_iconst (v := 1) (pc := 1336) g dL_law_1336 (by decide) ?_
    refine j_iadd (pc := 1337) g dL_law_1337 ?_
    refine j_sld (pc := 1338) gl h1 dL_law_1338 ?_
    refine j_aload_n (pc := 1339) g 2 dL_law_1339 rfl ?_
    refine j_callH (pc := 1340) (na := 3) (As := [.ref (ad 0), .int (xs (i + 1).toNatClampNeg), .ref o]) (rest := []) (r := 1) (w' := ((o, .inl (t 4, 1, .inr (.inl fo))) :: (od, .inl (t 5, 1, .inr (.inr (.inr (.inl fd))))) :: (mC am t σm ++ kW aa ad t σk1 []))) g (hL_commandSizeByCounting_x1 (rs := (od, .inl (t 5, 1, .inr (.inr (.inr (.inl fd))))) :: mC am t σm) hst hf) q_t_L_commandSizeByCounting q_w_L_commandSizeByCounting q_l_L_224 q_n_L (by decide) (by decide +kernel) rfl ⟨Nat.le_of_ble_eq_true rfl, Nat.le_of_ble_eq_true rfl⟩ ⟨by omega, by omega⟩ (Nat.le_of_ble_eq_true rfl) (lw_pm_h aa ad am t σk σm _ _) (lw_pm_h aa ad am t σk1 σm _ _).symm dL_law_1340 ?_ rfl
    have hkk : k + 1 ≤ room_1.cells := by omega
    have hnn : n + 6 ≤ room_1.slots := by omega
    refine j_istore (L' := [(6, .int 1), (5, .int i), (4, .ref od), (3, .ref o), (2, .ref (am 0)), (1, .ref (ad 0)), (0, .ref b)]) (pc := 1343) g dL_law_1343 (Nat.le_of_ble_eq_true rfl) rfl ?_
    refine j_aload_n (pc := 1345) g 4 dL_law_1345 rfl ?_
    refine j_aload_n (pc := 1346) g 6 dL_law_1346 rfl ?_
    refine j_iload (pc := 1347) g 1 dL_law_1347 rfl ?_
    refine j_iconst (v := 1) (pc := 1349) g dL_law_1349 (by decide) ?_
    refine j_iadd (pc := 1350) g dL_law_1350 ?_
    refine j_sld (pc := 1351) gl h1 dL_law_1351 ?_
    refine j_callVi (pc := 1352) (na := 1) (As := [.int (xs (i + 1).toNatClampNeg)]) (rest := []) (q0 := 2) (ci := 10) (w' := ((o, .inl (t 4, 1, .inr (.inl fo))) :: (od, .inl (t 5, 1, .inr (.inr (.inr (.inl fd))))) :: (mC am t σm1 ++ kW aa ad t σk1 []))) g (cX9_commandSizeByCounting_ (rs := (o, .inl (t 4, 1, .inr (.inl fo))) :: (od, .inl (t 5, 1, .inr (.inr (.inr (.inl fd))))) :: kW aa ad t σk1 []) hm) q_i_X9_commandSizeByCounting q_s_X9_commandSizeByCounting rfl rfl rfl q_c_X9_commandSizeByCounting q_l_L_226 q_n_X9 (by decide +kernel) rfl ⟨Nat.le_of_ble_eq_true rfl, Nat.le_of_ble_eq_true rfl⟩ ⟨hkk, hnn⟩ (Nat.le_of_ble_eq_true rfl) (lw_pm_m aa ad am t σk1 σm _ _) (lw_pm_m aa ad am t σk1 σm1 _ _).symm dL_law_1352 ?_ rfl
    refine j_istore (L' := [(7, .int r), (6, .int 1), (5, .int i), (4, .ref od), (3, .ref o), (2, .ref (am 0)), (1, .ref (ad 0)), (0, .ref b)]) (pc := 1355) g dL_law_1355 (Nat.le_of_ble_eq_true rfl) rfl ?_
    refine j_aload_n (pc := 1357) g 5 dL_law_1357 rfl ?_
    refine j_callVi (pc := 1358) (na := 0) (As := []) (rest := []) (q0 := 2) (ci := 10) (w' := ((o, .inl (t 4, 1, .inr (.inl fo))) :: (od, .inl (t 5, 1, .inr (.inr (.inr (.inl fd))))) :: (mC am t σm1 ++ kW aa ad t σk1 []))) g (cX9_thrown_ (rs := (o, .inl (t 4, 1, .inr (.inl fo))) :: (od, .inl (t 5, 1, .inr (.inr (.inr (.inl fd))))) :: kW aa ad t σk1 []) rfl) q_i_X9_thrown q_s_X9_thrown rfl rfl rfl q_c_X9_thrown q_l_L_155 q_n_X9 (by decide +kernel) rfl ⟨Nat.le_of_ble_eq_true rfl, Nat.le_of_ble_eq_true rfl⟩ ⟨hkk, hnn⟩ (Nat.le_of_ble_eq_true rfl) (lw_pm_m aa ad am t σk1 σm1 _ _) (lw_pm_m aa ad am t σk1 σm1 _ _).symm dL_law_1358 ?_ rfl
    refine j_iload (pc := 1361) g 1 dL_law_1361 rfl ?_
    refine j_icmp_eq (tgt := 1368) (pc := 1363) g dL_law_1363 (by decide) (fun _ => ?_) (fun h9 => absurd h0 h9)
    refine j_iload (pc := 1368) g 1 dL_law_1368 rfl ?_
    refine j_if_ne (tgt := 1385) (pc := 1370) g dL_law_1370 (by decide) (fun _ => ?_) (fun h9 => absurd h9 (by decide))
    refine j_goto (tgt := 2781) (pc := 1385) g dL_law_1385 (by decide) ?_
    refine j_sub (pc := 2781) g [2, 3, 4, 5, 6, 7] rfl ?_
    exact j_widen g (by omega) (by omega) (next σk1 σm1 fo fd hR)
set_option maxRecDepth 100000 in
set_option maxHeartbeats 4000000 in
theorem lw_c21 {D : va_G} {t : Nat → ClassId} {aa : gx_AA} {l : Launch} {J : gx_J} {b Ln : Nat} {xs : Nat → Int32} (gl : gx_GL D t (gx_E0 aa) l room_1 cL_law RL 10 J b Ln xs) (hst : l.stackTraces = false) {k n : Nat} (hk : k + 1 ≤ room_1.cells) (hn : n + 6 ≤ room_1.slots) {i : Int32} (h1 : vp_in (i + 1) Ln) (h2 : vp_in (i + 2) Ln) (h3 : vp_in (i + 3) Ln) {ad am : Nat → Nat} {o od : Nat} {σk : CS} {σm : OS} {fo : Nat → Int64} {fd : Nat → UInt64} {R : CS → OS → Prop} (hag : Ag_isAbove R σk σm (xs (i + 1).toNatClampNeg) (xs (i + 2).toNatClampNeg)) (next : ∀ (σk2 : CS) (σm2 : OS) (fo2 : Nat → Int64) (fd2 : Nat → UInt64), R σk2 σm2 → J (k + 1) (n + 6) ((o, .inl (t 4, 1, .inr (.inl fo2))) :: (od, .inl (t 5, 1, .inr (.inr (.inr (.inl fd2))))) :: (mC am t σm2 ++ kW aa ad t σk2 [])) 2781 [(5, .int i), (4, .ref od), (3, .ref o), (2, .ref (am 0)), (1, .ref (ad 0)), (0, .ref b)] []) : J k n ((o, .inl (t 4, 1, .inr (.inl fo))) :: (od, .inl (t 5, 1, .inr (.inr (.inr (.inl fd))))) :: (mC am t σm ++ kW aa ad t σk [])) 1388 [(5, .int i), (4, .ref od), (3, .ref o), (2, .ref (am 0)), (1, .ref (ad 0)), (0, .ref b)] [] := by
  have g := gl.g
  have hkk : k ≤ room_1.cells := by omega
  have hnn : n ≤ room_1.slots := by omega
  obtain ⟨r, σm1, hm, hag⟩ := hag
  rcases hag with ⟨σk1, hf, h0, hR⟩ | ⟨σk1, hf, h0, hR⟩
  · refine j_aload_n (pc := 1388) g 4 dL_law_1388 rfl ?_
    refine j_aload_n (pc := 1389) g 5 dL_law_1389 rfl ?_
    refine j_iload (pc := 1390) g 0 dL_law_1390 rfl ?_
    refine j_iconst (v := 1) (pc := 1392) g dL_law_1392 (by decide) ?_
    refine j_iadd (pc := 1393) g dL_law_1393 ?_
    refine j_sld (pc := 1394) gl h1 dL_law_1394 ?_
    refine j_aload_n (pc := 1395) g 5 dL_law_1395 rfl ?_
    refine j_iload (pc := 1396) g 0 dL_law_1396 rfl ?_
    refine j_iconst (v := 2) (pc := 1398) g dL_law_1398 (by decide) ?_
    refine j_iadd (pc := 1399) g dL_law_1399 ?_
    refine j_sld (pc := 1400) gl h2 dL_law_1400 ?_
    refine j_aload_n (pc := 1401) g 2 dL_law_1401 rfl ?_
    refine j_callH (pc := 1402) (na := 4) (As := [.ref (ad 0), .int (xs (i + 1).toNatClampNeg), .int (xs (i + 2).toNatClampNeg), .ref o]) (rest := []) (r := 0) (w' := ((o, .inl (t 4, 1, .inr (.inl (vp_updL fo (0 : Int32).toNatClampNeg (if r = 0 then (0 : Int64) else 1))))) :: (od, .inl (t 5, 1, .inr (.inr (.inr (.inl fd))))) :: (mC am t σm ++ kW aa ad t σk1 []))) g (hL_isAbove_ok (rs := (od, .inl (t 5, 1, .inr (.inr (.inr (.inl fd))))) :: mC am t σm) hst hf) q_t_L_isAbove q_w_L_isAbove q_l_L_227 q_n_L (by decide) (by decide +kernel) rfl ⟨Nat.le_of_ble_eq_true rfl, Nat.le_of_ble_eq_true rfl⟩ ⟨by omega, by omega⟩ (Nat.le_of_ble_eq_true rfl) (lw_pm_h aa ad am t σk σm _ _) (lw_pm_h aa ad am t σk1 σm _ _).symm dL_law_1402 ?_ rfl
    have hkk : k + 0 ≤ room_1.cells := by omega
    have hnn : n + 0 ≤ room_1.slots := by omega
    refine j_istore (L' := [(6, .int 0), (5, .int i), (4, .ref od), (3, .ref o), (2, .ref (am 0)), (1, .ref (ad 0)), (0, .ref b)]) (pc := 1405) g dL_law_1405 (Nat.le_of_ble_eq_true rfl) rfl ?_
    refine j_aload_n (pc := 1407) g 4 dL_law_1407 rfl ?_
    refine j_aload_n (pc := 1408) g 6 dL_law_1408 rfl ?_
    refine j_iload (pc := 1409) g 1 dL_law_1409 rfl ?_
    refine j_iconst (v := 1) (pc := 1411) g dL_law_1411 (by decide) ?_
    refine j_iadd (pc := 1412) g dL_law_1412 ?_
    refine j_sld (pc := 1413) gl h1 dL_law_1413 ?_
    refine j_aload_n (pc := 1414) g 6 dL_law_1414 rfl ?_
    refine j_iload (pc := 1415) g 1 dL_law_1415 rfl ?_
    refine j_iconst (v := 2) (pc := 1417) g dL_law_1417 (by decide) ?_
    refine j_iadd (pc := 1418) g dL_law_1418 ?_
    refine j_sld (pc := 1419) gl h2 dL_law_1419 ?_
    refine j_callVi (pc := 1420) (na := 2) (As := [.int (xs (i + 1).toNatClampNeg), .int (xs (i + 2).toNatClampNeg)]) (rest := []) (q0 := 2) (ci := 10) (w' := ((o, .inl (t 4, 1, .inr (.inl (vp_updL fo (0 : Int32).toNatClampNeg (if r = 0 then (0 : Int64) else 1))))) :: (od, .inl (t 5, 1, .inr (.inr (.inr (.inl fd))))) :: (mC am t σm1 ++ kW aa ad t σk1 []))) g (cX9_isAbove_ (rs := (o, .inl (t 4, 1, .inr (.inl (vp_updL fo (0 : Int32).toNatClampNeg (if r = 0 then (0 : Int64) else 1))))) :: (od, .inl (t 5, 1, .inr (.inr (.inr (.inl fd))))) :: kW aa ad t σk1 []) hm) q_i_X9_isAbove q_s_X9_isAbove rfl rfl rfl q_c_X9_isAbove q_l_L_229 q_n_X9 (by decide +kernel) rfl ⟨Nat.le_of_ble_eq_true rfl, Nat.le_of_ble_eq_true rfl⟩ ⟨hkk, hnn⟩ (Nat.le_of_ble_eq_true rfl) (lw_pm_m aa ad am t σk1 σm _ _) (lw_pm_m aa ad am t σk1 σm1 _ _).symm dL_law_1420 ?_ rfl
    refine j_istore (L' := [(7, .int r), (6, .int 0), (5, .int i), (4, .ref od), (3, .ref o), (2, .ref (am 0)), (1, .ref (ad 0)), (0, .ref b)]) (pc := 1423) g dL_law_1423 (Nat.le_of_ble_eq_true rfl) rfl ?_
    refine j_aload_n (pc := 1425) g 5 dL_law_1425 rfl ?_
    refine j_callVi (pc := 1426) (na := 0) (As := []) (rest := []) (q0 := 2) (ci := 10) (w' := ((o, .inl (t 4, 1, .inr (.inl (vp_updL fo (0 : Int32).toNatClampNeg (if r = 0 then (0 : Int64) else 1))))) :: (od, .inl (t 5, 1, .inr (.inr (.inr (.inl fd))))) :: (mC am t σm1 ++ kW aa ad t σk1 []))) g (cX9_thrown_ (rs := (o, .inl (t 4, 1, .inr (.inl (vp_updL fo (0 : Int32).toNatClampNeg (if r = 0 then (0 : Int64) else 1))))) :: (od, .inl (t 5, 1, .inr (.inr (.inr (.inl fd))))) :: kW aa ad t σk1 []) rfl) q_i_X9_thrown q_s_X9_thrown rfl rfl rfl q_c_X9_thrown q_l_L_155 q_n_X9 (by decide +kernel) rfl ⟨Nat.le_of_ble_eq_true rfl, Nat.le_of_ble_eq_true rfl⟩ ⟨hkk, hnn⟩ (Nat.le_of_ble_eq_true rfl) (lw_pm_m aa ad am t σk1 σm1 _ _) (lw_pm_m aa ad am t σk1 σm1 _ _).symm dL_law_1426 ?_ rfl
    refine j_iload (pc := 1429) g 1 dL_law_1429 rfl ?_
    refine j_icmp_eq (tgt := 1436) (pc := 1431) g dL_law_1431 (by decide) (fun _ => ?_) (fun h9 => absurd h0 h9)
    refine j_iload (pc := 1436) g 1 dL_law_1436 rfl ?_
    refine j_if_ne (tgt := 1460) (pc := 1438) g dL_law_1438 (by decide) (fun h9 => absurd rfl h9) (fun _ => ?_)
    refine j_aload_n (pc := 1441) g 4 dL_law_1441 rfl ?_
    refine j_iconst (v := 0) (pc := 1442) g dL_law_1442 (by decide) ?_
    refine j_lald (pc := 1443) g 0 rfl (show gx_in (0 : Int32) 1 by decide) dL_law_1443 ?_
    refine j_iload (pc := 1444) g 0 dL_law_1444 rfl ?_
    refine j_if_eq (tgt := 1453) (pc := 1446) g dL_law_1446 (by decide) (fun c9 => ?_) (fun c9 => ?_)
    · refine j_lconst (v := 0) (pc := 1453) g dL_law_1453 (by decide) ?_
      refine j_lcmp (pc := 1454) g dL_law_1454 ?_
      refine j_if_eq (tgt := 1460) (pc := 1455) g dL_law_1455 (by decide) (fun _ => ?_) (fun h9 => absurd (lw_cmp1 (by rw [if_pos c9]; rfl)) h9)
      refine j_goto (tgt := 2781) (pc := 1460) g dL_law_1460 (by decide) ?_
      refine j_sub (pc := 2781) g [2, 3, 4, 5, 6, 7] rfl ?_
      exact j_widen g (by omega) (by omega) (next σk1 σm1 (vp_updL fo (0 : Int32).toNatClampNeg (if r = 0 then (0 : Int64) else 1)) fd hR)
    · refine j_lconst (v := 1) (pc := 1449) g dL_law_1449 (by decide) ?_
      refine j_goto (tgt := 1454) (pc := 1450) g dL_law_1450 (by decide) ?_
      refine j_lcmp (pc := 1454) g dL_law_1454 ?_
      refine j_if_eq (tgt := 1460) (pc := 1455) g dL_law_1455 (by decide) (fun _ => ?_) (fun h9 => absurd (lw_cmp1 (by rw [if_neg c9]; rfl)) h9)
      refine j_goto (tgt := 2781) (pc := 1460) g dL_law_1460 (by decide) ?_
      refine j_sub (pc := 2781) g [2, 3, 4, 5, 6, 7] rfl ?_
      exact j_widen g (by omega) (by omega) (next σk1 σm1 (vp_updL fo (0 : Int32).toNatClampNeg (if r = 0 then (0 : Int64) else 1)) fd hR)
  · refine j_aload_n (pc := 1388) g 4 dL_law_1388 rfl ?_
    refine j_aload_n (pc := 1389) g 5 dL_law_1389 rfl ?_
    refine j_iload (pc := 1390) g 0 dL_law_1390 rfl ?_
    refine j_iconst (v := 1) (pc := 1392) g dL_law_1392 (by decide) ?_
    refine j_iadd (pc := 1393) g dL_law_1393 ?_
    refine j_sld (pc := 1394) gl h1 dL_law_1394 ?_
    refine j_aload_n (pc := 1395) g 5 dL_law_1395 rfl ?_
    refine j_iload (pc := 1396) g 0 dL_law_1396 rfl ?_
    refine j_iconst (v := 2) (pc := 1398) g dL_law_1398 (by decide) ?_
    refine j_iadd (pc := 1399) g dL_law_1399 ?_
    refine j_sld (pc := 1400) gl h2 dL_law_1400 ?_
    refine j_aload_n (pc := 1401) g 2 dL_law_1401 rfl ?_
    refine j_callH (pc := 1402) (na := 4) (As := [.ref (ad 0), .int (xs (i + 1).toNatClampNeg), .int (xs (i + 2).toNatClampNeg), .ref o]) (rest := []) (r := 1) (w' := ((o, .inl (t 4, 1, .inr (.inl fo))) :: (od, .inl (t 5, 1, .inr (.inr (.inr (.inl fd))))) :: (mC am t σm ++ kW aa ad t σk1 []))) g (hL_isAbove_x1 (rs := (od, .inl (t 5, 1, .inr (.inr (.inr (.inl fd))))) :: mC am t σm) hst hf) q_t_L_isAbove q_w_L_isAbove q_l_L_227 q_n_L (by decide) (by decide +kernel) rfl ⟨Nat.le_of_ble_eq_true rfl, Nat.le_of_ble_eq_true rfl⟩ ⟨by omega, by omega⟩ (Nat.le_of_ble_eq_true rfl) (lw_pm_h aa ad am t σk σm _ _) (lw_pm_h aa ad am t σk1 σm _ _).symm dL_law_1402 ?_ rfl
    have hkk : k + 1 ≤ room_1.cells := by omega
    have hnn : n + 6 ≤ room_1.slots := by omega
    refine j_istore (L' := [(6, .int 1), (5, .int i), (4, .ref od), (3, .ref o), (2, .ref (am 0)), (1, .ref (ad 0)), (0, .ref b)]) (pc := 1405) g dL_law_1405 (Nat.le_of_ble_eq_true rfl) rfl ?_
    refine j_aload_n (pc := 1407) g 4 dL_law_1407 rfl ?_
    refine j_aload_n (pc := 1408) g 6 dL_law_1408 rfl ?_
    refine j_iload (pc := 1409) g 1 dL_law_1409 rfl ?_
    refine j_iconst (v := 1) (pc := 1411) g dL_law_1411 (by decide) ?_
    refine j_iadd (pc := 1412) g dL_law_1412 ?_
    refine j_sld (pc := 1413) gl h1 dL_law_1413 ?_
    refine j_aload_n (pc := 1414) g 6 dL_law_1414 rfl ?_
    refine j_iload (pc := 1415) g 1 dL_law_1415 rfl ?_
    refine j_iconst (v := 2) (pc := 1417) g dL_law_1417 (by decide) ?_
    refine j_iadd (pc := 1418) g dL_law_1418 ?_
    refine j_sld (pc := 1419) gl h2 dL_law_1419 ?_
    refine j_callVi (pc := 1420) (na := 2) (As := [.int (xs (i + 1).toNatClampNeg), .int (xs (i + 2).toNatClampNeg)]) (rest := []) (q0 := 2) (ci := 10) (w' := ((o, .inl (t 4, 1, .inr (.inl fo))) :: (od, .inl (t 5, 1, .inr (.inr (.inr (.inl fd))))) :: (mC am t σm1 ++ kW aa ad t σk1 []))) g (cX9_isAbove_ (rs := (o, .inl (t 4, 1, .inr (.inl fo))) :: (od, .inl (t 5, 1, .inr (.inr (.inr (.inl fd))))) :: kW aa ad t σk1 []) hm) q_i_X9_isAbove q_s_X9_isAbove rfl rfl rfl q_c_X9_isAbove q_l_L_229 q_n_X9 (by decide +kernel) rfl ⟨Nat.le_of_ble_eq_true rfl, Nat.le_of_ble_eq_true rfl⟩ ⟨hkk, hnn⟩ (Nat.le_of_ble_eq_true rfl) (lw_pm_m aa ad am t σk1 σm _ _) (lw_pm_m aa ad am t σk1 σm1 _ _).symm dL_law_1420 ?_ rfl
    refine j_istore (L' := [(7, .int r), (6, .int 1), (5, .int i), (4, .ref od), (3, .ref o), (2, .ref (am 0)), (1, .ref (ad 0)), (0, .ref b)]) (pc := 1423) g dL_law_1423 (Nat.le_of_ble_eq_true rfl) rfl ?_
    refine j_aload_n (pc := 1425) g 5 dL_law_1425 rfl ?_
    refine j_callVi (pc := 1426) (na := 0) (As := []) (rest := []) (q0 := 2) (ci := 10) (w' := ((o, .inl (t 4, 1, .inr (.inl fo))) :: (od, .inl (t 5, 1, .inr (.inr (.inr (.inl fd))))) :: (mC am t σm1 ++ kW aa ad t σk1 []))) g (cX9_thrown_ (rs := (o, .inl (t 4, 1, .inr (.inl fo))) :: (od, .inl (t 5, 1, .inr (.inr (.inr (.inl fd))))) :: kW aa ad t σk1 []) rfl) q_i_X9_thrown q_s_X9_thrown rfl rfl rfl q_c_X9_thrown q_l_L_155 q_n_X9 (by decide +kernel) rfl ⟨Nat.le_of_ble_eq_true rfl, Nat.le_of_ble_eq_true rfl⟩ ⟨hkk, hnn⟩ (Nat.le_of_ble_eq_true rfl) (lw_pm_m aa ad am t σk1 σm1 _ _) (lw_pm_m aa ad am t σk1 σm1 _ _).symm dL_law_1426 ?_ rfl
    refine j_iload (pc := 1429) g 1 dL_law_1429 rfl ?_
    refine j_icmp_eq (tgt := 1436) (pc := 1431) g dL_law_1431 (by decide) (fun _ => ?_) (fun h9 => absurd h0 h9)
    refine j_iload (pc := 1436) g 1 dL_law_1436 rfl ?_
    refine j_if_ne (tgt := 1460) (pc := 1438) g dL_law_1438 (by decide) (fun _ => ?_) (fun h9 => absurd h9 (by decide))
    refine j_goto (tgt := 2781) (pc := 1460) g dL_law_1460 (by decide) ?_
    refine j_sub (pc := 2781) g [2, 3, 4, 5, 6, 7] rfl ?_
    exact j_widen g (by omega) (by omega) (next σk1 σm1 fo fd hR)
set_option maxRecDepth 100000 in
set_option maxHeartbeats 4000000 in
theorem lw_c22 {D : va_G} {t : Nat → ClassId} {aa : gx_AA} {l : Launch} {J : gx_J} {b Ln : Nat} {xs : Nat → Int32} (gl : gx_GL D t (gx_E0 aa) l room_1 cL_law RL 10 J b Ln xs) (hst : l.stackTraces = false) {k n : Nat} (hk : k + 1 ≤ room_1.cells) (hn : n + 6 ≤ room_1.slots) {i : Int32} (h1 : vp_in (i + 1) Ln) (h2 : vp_in (i + 2) Ln) (h3 : vp_in (i + 3) Ln) {ad am : Nat → Nat} {o od : Nat} {σk : CS} {σm : OS} {fo : Nat → Int64} {fd : Nat → UInt64} {R : CS → OS → Prop} (hag : Ag_commonSuperior R σk σm (xs (i + 1).toNatClampNeg) (xs (i + 2).toNatClampNeg)) (next : ∀ (σk2 : CS) (σm2 : OS) (fo2 : Nat → Int64) (fd2 : Nat → UInt64), R σk2 σm2 → J (k + 1) (n + 6) ((o, .inl (t 4, 1, .inr (.inl fo2))) :: (od, .inl (t 5, 1, .inr (.inr (.inr (.inl fd2))))) :: (mC am t σm2 ++ kW aa ad t σk2 [])) 2781 [(5, .int i), (4, .ref od), (3, .ref o), (2, .ref (am 0)), (1, .ref (ad 0)), (0, .ref b)] []) : J k n ((o, .inl (t 4, 1, .inr (.inl fo))) :: (od, .inl (t 5, 1, .inr (.inr (.inr (.inl fd))))) :: (mC am t σm ++ kW aa ad t σk [])) 1463 [(5, .int i), (4, .ref od), (3, .ref o), (2, .ref (am 0)), (1, .ref (ad 0)), (0, .ref b)] [] := by
  have g := gl.g
  have hkk : k ≤ room_1.cells := by omega
  have hnn : n ≤ room_1.slots := by omega
  obtain ⟨r, σm1, hm, hag⟩ := hag
  rcases hag with ⟨σk1, hf, h0, hR⟩ | ⟨σk1, hf, h0, hR⟩
  · refine j_aload_n (pc := 1463) g 4 dL_law_1463 rfl ?_
    refine j_aload_n (pc := 1464) g 5 dL_law_1464 rfl ?_
    refine j_iload (pc := 1465) g 0 dL_law_1465 rfl ?_
    refine j_iconst (v := 1) (pc := 1467) g dL_law_1467 (by decide) ?_
    refine j_iadd (pc := 1468) g dL_law_1468 ?_
    refine j_sld (pc := 1469) gl h1 dL_law_1469 ?_
    refine j_aload_n (pc := 1470) g 5 dL_law_1470 rfl ?_
    refine j_iload (pc := 1471) g 0 dL_law_1471 rfl ?_
    refine j_iconst (v := 2) (pc := 1473) g dL_law_1473 (by decide) ?_
    refine j_iadd (pc := 1474) g dL_law_1474 ?_
    refine j_sld (pc := 1475) gl h2 dL_law_1475 ?_
    refine j_aload_n (pc := 1476) g 2 dL_law_1476 rfl ?_
    refine j_callH (pc := 1477) (na := 4) (As := [.ref (ad 0), .int (xs (i + 1).toNatClampNeg), .int (xs (i + 2).toNatClampNeg), .ref o]) (rest := []) (r := 0) (w' := ((o, .inl (t 4, 1, .inr (.inl (vp_updL fo (0 : Int32).toNatClampNeg r.toInt64)))) :: (od, .inl (t 5, 1, .inr (.inr (.inr (.inl fd))))) :: (mC am t σm ++ kW aa ad t σk1 []))) g (hL_commonSuperior_ok (rs := (od, .inl (t 5, 1, .inr (.inr (.inr (.inl fd))))) :: mC am t σm) hst hf) q_t_L_commonSuperior q_w_L_commonSuperior q_l_L_230 q_n_L (by decide) (by decide +kernel) rfl ⟨Nat.le_of_ble_eq_true rfl, Nat.le_of_ble_eq_true rfl⟩ ⟨by omega, by omega⟩ (Nat.le_of_ble_eq_true rfl) (lw_pm_h aa ad am t σk σm _ _) (lw_pm_h aa ad am t σk1 σm _ _).symm dL_law_1477 ?_ rfl
    have hkk : k + 0 ≤ room_1.cells := by omega
    have hnn : n + 0 ≤ room_1.slots := by omega
    refine j_istore (L' := [(6, .int 0), (5, .int i), (4, .ref od), (3, .ref o), (2, .ref (am 0)), (1, .ref (ad 0)), (0, .ref b)]) (pc := 1480) g dL_law_1480 (Nat.le_of_ble_eq_true rfl) rfl ?_
    refine j_aload_n (pc := 1482) g 4 dL_law_1482 rfl ?_
    refine j_aload_n (pc := 1483) g 6 dL_law_1483 rfl ?_
    refine j_iload (pc := 1484) g 1 dL_law_1484 rfl ?_
    refine j_iconst (v := 1) (pc := 1486) g dL_law_1486 (by decide) ?_
    refine j_iadd (pc := 1487) g dL_law_1487 ?_
    refine j_sld (pc := 1488) gl h1 dL_law_1488 ?_
    refine j_aload_n (pc := 1489) g 6 dL_law_1489 rfl ?_
    refine j_iload (pc := 1490) g 1 dL_law_1490 rfl ?_
    refine j_iconst (v := 2) (pc := 1492) g dL_law_1492 (by decide) ?_
    refine j_iadd (pc := 1493) g dL_law_1493 ?_
    refine j_sld (pc := 1494) gl h2 dL_law_1494 ?_
    refine j_callVi (pc := 1495) (na := 2) (As := [.int (xs (i + 1).toNatClampNeg), .int (xs (i + 2).toNatClampNeg)]) (rest := []) (q0 := 2) (ci := 10) (w' := ((o, .inl (t 4, 1, .inr (.inl (vp_updL fo (0 : Int32).toNatClampNeg r.toInt64)))) :: (od, .inl (t 5, 1, .inr (.inr (.inr (.inl fd))))) :: (mC am t σm1 ++ kW aa ad t σk1 []))) g (cX9_commonSuperior_ (rs := (o, .inl (t 4, 1, .inr (.inl (vp_updL fo (0 : Int32).toNatClampNeg r.toInt64)))) :: (od, .inl (t 5, 1, .inr (.inr (.inr (.inl fd))))) :: kW aa ad t σk1 []) hm) q_i_X9_commonSuperior q_s_X9_commonSuperior rfl rfl rfl q_c_X9_commonSuperior q_l_L_232 q_n_X9 (by decide +kernel) rfl ⟨Nat.le_of_ble_eq_true rfl, Nat.le_of_ble_eq_true rfl⟩ ⟨hkk, hnn⟩ (Nat.le_of_ble_eq_true rfl) (lw_pm_m aa ad am t σk1 σm _ _) (lw_pm_m aa ad am t σk1 σm1 _ _).symm dL_law_1495 ?_ rfl
    refine j_istore (L' := [(7, .int r), (6, .int 0), (5, .int i), (4, .ref od), (3, .ref o), (2, .ref (am 0)), (1, .ref (ad 0)), (0, .ref b)]) (pc := 1498) g dL_law_1498 (Nat.le_of_ble_eq_true rfl) rfl ?_
    refine j_aload_n (pc := 1500) g 5 dL_law_1500 rfl ?_
    refine j_callVi (pc := 1501) (na := 0) (As := []) (rest := []) (q0 := 2) (ci := 10) (w' := ((o, .inl (t 4, 1, .inr (.inl (vp_updL fo (0 : Int32).toNatClampNeg r.toInt64)))) :: (od, .inl (t 5, 1, .inr (.inr (.inr (.inl fd))))) :: (mC am t σm1 ++ kW aa ad t σk1 []))) g (cX9_thrown_ (rs := (o, .inl (t 4, 1, .inr (.inl (vp_updL fo (0 : Int32).toNatClampNeg r.toInt64)))) :: (od, .inl (t 5, 1, .inr (.inr (.inr (.inl fd))))) :: kW aa ad t σk1 []) rfl) q_i_X9_thrown q_s_X9_thrown rfl rfl rfl q_c_X9_thrown q_l_L_155 q_n_X9 (by decide +kernel) rfl ⟨Nat.le_of_ble_eq_true rfl, Nat.le_of_ble_eq_true rfl⟩ ⟨hkk, hnn⟩ (Nat.le_of_ble_eq_true rfl) (lw_pm_m aa ad am t σk1 σm1 _ _) (lw_pm_m aa ad am t σk1 σm1 _ _).symm dL_law_1501 ?_ rfl
    refine j_iload (pc := 1504) g 1 dL_law_1504 rfl ?_
    refine j_icmp_eq (tgt := 1511) (pc := 1506) g dL_law_1506 (by decide) (fun _ => ?_) (fun h9 => absurd h0 h9)
    refine j_iload (pc := 1511) g 1 dL_law_1511 rfl ?_
    refine j_if_ne (tgt := 1528) (pc := 1513) g dL_law_1513 (by decide) (fun h9 => absurd rfl h9) (fun _ => ?_)
    refine j_aload_n (pc := 1516) g 4 dL_law_1516 rfl ?_
    refine j_iconst (v := 0) (pc := 1517) g dL_law_1517 (by decide) ?_
    refine j_lald (pc := 1518) g 0 rfl (show gx_in (0 : Int32) 1 by decide) dL_law_1518 ?_
    refine j_iload (pc := 1519) g 0 dL_law_1519 rfl ?_
    refine j_i2l (pc := 1521) g dL_law_1521 ?_
    refine j_lcmp (pc := 1522) g dL_law_1522 ?_
    refine j_if_eq (tgt := 1528) (pc := 1523) g dL_law_1523 (by decide) (fun _ => ?_) (fun h9 => absurd (lw_cmp0 _) h9)
    refine j_goto (tgt := 2781) (pc := 1528) g dL_law_1528 (by decide) ?_
    refine j_sub (pc := 2781) g [2, 3, 4, 5, 6, 7] rfl ?_
    exact j_widen g (by omega) (by omega) (next σk1 σm1 (vp_updL fo (0 : Int32).toNatClampNeg r.toInt64) fd hR)
  · refine j_aload_n (pc := 1463) g 4 dL_law_1463 rfl ?_
    refine j_aload_n (pc := 1464) g 5 dL_law_1464 rfl ?_
    refine j_iload (pc := 1465) g 0 dL_law_1465 rfl ?_
    refine j_iconst (v := 1) (pc := 1467) g dL_law_1467 (by decide) ?_
    refine j_iadd (pc := 1468) g dL_law_1468 ?_
    refine j_sld (pc := 1469) gl h1 dL_law_1469 ?_
    refine j_aload_n (pc := 1470) g 5 dL_law_1470 rfl ?_
    refine j_iload (pc := 1471) g 0 dL_law_1471 rfl ?_
    refine j_iconst (v := 2) (pc := 1473) g dL_law_1473 (by decide) ?_
    refine j_iadd (pc := 1474) g dL_law_1474 ?_
    refine j_sld (pc := 1475) gl h2 dL_law_1475 ?_
    refine j_aload_n (pc := 1476) g 2 dL_law_1476 rfl ?_
    refine j_callH (pc := 1477) (na := 4) (As := [.ref (ad 0), .int (xs (i + 1).toNatClampNeg), .int (xs (i + 2).toNatClampNeg), .ref o]) (rest := []) (r := 1) (w' := ((o, .inl (t 4, 1, .inr (.inl fo))) :: (od, .inl (t 5, 1, .inr (.inr (.inr (.inl fd))))) :: (mC am t σm ++ kW aa ad t σk1 []))) g (hL_commonSuperior_x1 (rs := (od, .inl (t 5, 1, .inr (.inr (.inr (.inl fd))))) :: mC am t σm) hst hf) q_t_L_commonSuperior q_w_L_commonSuperior q_l_L_230 q_n_L (by decide) (by decide +kernel) rfl ⟨Nat.le_of_ble_eq_true rfl, Nat.le_of_ble_eq_true rfl⟩ ⟨by omega, by omega⟩ (Nat.le_of_ble_eq_true rfl) (lw_pm_h aa ad am t σk σm _ _) (lw_pm_h aa ad am t σk1 σm _ _).symm dL_law_1477 ?_ rfl
    have hkk : k + 1 ≤ room_1.cells := by omega
    have hnn : n + 6 ≤ room_1.slots := by omega
    refine j_istore (L' := [(6, .int 1), (5, .int i), (4, .ref od), (3, .ref o), (2, .ref (am 0)), (1, .ref (ad 0)), (0, .ref b)]) (pc := 1480) g dL_law_1480 (Nat.le_of_ble_eq_true rfl) rfl ?_
    refine j_aload_n (pc := 1482) g 4 dL_law_1482 rfl ?_
    refine j_aload_n (pc := 1483) g 6 dL_law_1483 rfl ?_
    refine j_iload (pc := 1484) g 1 dL_law_1484 rfl ?_
    refine j_iconst (v := 1) (pc := 1486) g dL_law_1486 (by decide) ?_
    refine j_iadd (pc := 1487) g dL_law_1487 ?_
    refine j_sld (pc := 1488) gl h1 dL_law_1488 ?_
    refine j_aload_n (pc := 1489) g 6 dL_law_1489 rfl ?_
    refine j_iload (pc := 1490) g 1 dL_law_1490 rfl ?_
    refine j_iconst (v := 2) (pc := 1492) g dL_law_1492 (by decide) ?_
    refine j_iadd (pc := 1493) g dL_law_1493 ?_
    refine j_sld (pc := 1494) gl h2 dL_law_1494 ?_
    refine j_callVi (pc := 1495) (na := 2) (As := [.int (xs (i + 1).toNatClampNeg), .int (xs (i + 2).toNatClampNeg)]) (rest := []) (q0 := 2) (ci := 10) (w' := ((o, .inl (t 4, 1, .inr (.inl fo))) :: (od, .inl (t 5, 1, .inr (.inr (.inr (.inl fd))))) :: (mC am t σm1 ++ kW aa ad t σk1 []))) g (cX9_commonSuperior_ (rs := (o, .inl (t 4, 1, .inr (.inl fo))) :: (od, .inl (t 5, 1, .inr (.inr (.inr (.inl fd))))) :: kW aa ad t σk1 []) hm) q_i_X9_commonSuperior q_s_X9_commonSuperior rfl rfl rfl q_c_X9_commonSuperior q_l_L_232 q_n_X9 (by decide +kernel) rfl ⟨Nat.le_of_ble_eq_true rfl, Nat.le_of_ble_eq_true rfl⟩ ⟨hkk, hnn⟩ (Nat.le_of_ble_eq_true rfl) (lw_pm_m aa ad am t σk1 σm _ _) (lw_pm_m aa ad am t σk1 σm1 _ _).symm dL_law_1495 ?_ rfl
    refine j_istore (L' := [(7, .int r), (6, .int 1), (5, .int i), (4, .ref od), (3, .ref o), (2, .ref (am 0)), (1, .ref (ad 0)), (0, .ref b)]) (pc := 1498) g dL_law_1498 (Nat.le_of_ble_eq_true rfl) rfl ?_
    refine j_aload_n (pc := 1500) g 5 dL_law_1500 rfl ?_
    refine j_callVi (pc := 1501) (na := 0) (As := []) (rest := []) (q0 := 2) (ci := 10) (w' := ((o, .inl (t 4, 1, .inr (.inl fo))) :: (od, .inl (t 5, 1, .inr (.inr (.inr (.inl fd))))) :: (mC am t σm1 ++ kW aa ad t σk1 []))) g (cX9_thrown_ (rs := (o, .inl (t 4, 1, .inr (.inl fo))) :: (od, .inl (t 5, 1, .inr (.inr (.inr (.inl fd))))) :: kW aa ad t σk1 []) rfl) q_i_X9_thrown q_s_X9_thrown rfl rfl rfl q_c_X9_thrown q_l_L_155 q_n_X9 (by decide +kernel) rfl ⟨Nat.le_of_ble_eq_true rfl, Nat.le_of_ble_eq_true rfl⟩ ⟨hkk, hnn⟩ (Nat.le_of_ble_eq_true rfl) (lw_pm_m aa ad am t σk1 σm1 _ _) (lw_pm_m aa ad am t σk1 σm1 _ _).symm dL_law_1501 ?_ rfl
    refine j_iload (pc := 1504) g 1 dL_law_1504 rfl ?_
    refine j_icmp_eq (tgt := 1511) (pc := 1506) g dL_law_1506 (by decide) (fun _ => ?_) (fun h9 => absurd h0 h9)
    refine j_iload (pc := 1511) g 1 dL_law_1511 rfl ?_
    refine j_if_ne (tgt := 1528) (pc := 1513) g dL_law_1513 (by decide) (fun _ => ?_) (fun h9 => absurd h9 (by decide))
    refine j_goto (tgt := 2781) (pc := 1528) g dL_law_1528 (by decide) ?_
    refine j_sub (pc := 2781) g [2, 3, 4, 5, 6, 7] rfl ?_
    exact j_widen g (by omega) (by omega) (next σk1 σm1 fo fd hR)
set_option maxRecDepth 100000 in
set_option maxHeartbeats 4000000 in
theorem lw_c23 {D : va_G} {t : Nat → ClassId} {aa : gx_AA} {l : Launch} {J : gx_J} {b Ln : Nat} {xs : Nat → Int32} (gl : gx_GL D t (gx_E0 aa) l room_1 cL_law RL 10 J b Ln xs) (hst : l.stackTraces = false) {k n : Nat} (hk : k + 1 ≤ room_1.cells) (hn : n + 6 ≤ room_1.slots) {i : Int32} (h1 : vp_in (i + 1) Ln) (h2 : vp_in (i + 2) Ln) (h3 : vp_in (i + 3) Ln) {ad am : Nat → Nat} {o od : Nat} {σk : CS} {σm : OS} {fo : Nat → Int64} {fd : Nat → UInt64} {R : CS → OS → Prop} (hag : Ag_greatestDepth R σk σm) (next : ∀ (σk2 : CS) (σm2 : OS) (fo2 : Nat → Int64) (fd2 : Nat → UInt64), R σk2 σm2 → J (k + 1) (n + 6) ((o, .inl (t 4, 1, .inr (.inl fo2))) :: (od, .inl (t 5, 1, .inr (.inr (.inr (.inl fd2))))) :: (mC am t σm2 ++ kW aa ad t σk2 [])) 2781 [(5, .int i), (4, .ref od), (3, .ref o), (2, .ref (am 0)), (1, .ref (ad 0)), (0, .ref b)] []) : J k n ((o, .inl (t 4, 1, .inr (.inl fo))) :: (od, .inl (t 5, 1, .inr (.inr (.inr (.inl fd))))) :: (mC am t σm ++ kW aa ad t σk [])) 1531 [(5, .int i), (4, .ref od), (3, .ref o), (2, .ref (am 0)), (1, .ref (ad 0)), (0, .ref b)] [] := by
  have g := gl.g
  have hkk : k ≤ room_1.cells := by omega
  have hnn : n ≤ room_1.slots := by omega
  obtain ⟨r, σm1, hm, hf, hR⟩ := hag
  refine j_aload_n (pc := 1531) g 4 dL_law_1531 rfl ?_
  refine j_callVi (pc := 1532) (na := 0) (As := []) (rest := []) (q0 := 10) (ci := 9) (w' := ((o, .inl (t 4, 1, .inr (.inl fo))) :: (od, .inl (t 5, 1, .inr (.inr (.inr (.inl fd))))) :: (mC am t σm ++ kW aa ad t σk []))) g (cX8_greatestDepth_ (rs := (o, .inl (t 4, 1, .inr (.inl fo))) :: (od, .inl (t 5, 1, .inr (.inr (.inr (.inl fd))))) :: mC am t σm) hf) q_i_X8_greatestDepth q_s_X8_greatestDepth rfl rfl (lw_at9 aa ad am t σk σm _ _) q_c_X8_greatestDepth q_l_L_233 q_n_X8 (by decide +kernel) rfl ⟨Nat.le_of_ble_eq_true rfl, Nat.le_of_ble_eq_true rfl⟩ ⟨hkk, hnn⟩ (Nat.le_of_ble_eq_true rfl) (lw_pm_k aa ad am t σk σm _ _) (lw_pm_k aa ad am t σk σm _ _).symm dL_law_1532 ?_ rfl
  refine j_aload_n (pc := 1535) g 3 dL_law_1535 rfl ?_
  refine j_callVi (pc := 1536) (na := 0) (As := []) (rest := [.int r]) (q0 := 2) (ci := 10) (w' := ((o, .inl (t 4, 1, .inr (.inl fo))) :: (od, .inl (t 5, 1, .inr (.inr (.inr (.inl fd))))) :: (mC am t σm1 ++ kW aa ad t σk []))) g (cX9_greatestDepth_ (rs := (o, .inl (t 4, 1, .inr (.inl fo))) :: (od, .inl (t 5, 1, .inr (.inr (.inr (.inl fd))))) :: kW aa ad t σk []) hm) q_i_X9_greatestDepth q_s_X9_greatestDepth rfl rfl rfl q_c_X9_greatestDepth q_l_L_236 q_n_X9 (by decide +kernel) rfl ⟨Nat.le_of_ble_eq_true rfl, Nat.le_of_ble_eq_true rfl⟩ ⟨hkk, hnn⟩ (Nat.le_of_ble_eq_true rfl) (lw_pm_m aa ad am t σk σm _ _) (lw_pm_m aa ad am t σk σm1 _ _).symm dL_law_1536 ?_ rfl
  refine j_icmp_eq (tgt := 2781) (pc := 1539) g dL_law_1539 (by decide) (fun _ => ?_) (fun h9 => absurd rfl h9)
  refine j_sub (pc := 2781) g [0, 1, 2, 3, 4, 5] rfl ?_
  exact j_widen g (by omega) (by omega) (next σk σm1 fo fd hR)
