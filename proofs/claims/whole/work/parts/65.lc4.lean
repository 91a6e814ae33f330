set_option maxRecDepth 100000 in
set_option maxHeartbeats 4000000 in
theorem lw_c32 {D : va_G} {t : Nat → ClassId} {aa : gx_AA} {l : Launch} {J : gx_J} {b Ln : Nat} {xs : Nat → Int32} (gl : gx_GL D t (gx_E0 aa) l room_1 cL_law RL 10 J b Ln xs) (hst : l.stackTraces = false) {k n : Nat} (hk : k + 1 ≤ room_1.cells) (hn : n + 6 ≤ room_1.slots) {i : Int32} (h1 : vp_in (i + 1) Ln) (h2 : vp_in (i + 2) Ln) (h3 : vp_in (i + 3) Ln) {ad am : Nat → Nat} {o od : Nat} {σk : CS} {σm : OS} {fo : Nat → Int64} {fd : Nat → UInt64} {R : CS → OS → Prop} (hag : Ag_executedOrders R σk σm) (next : ∀ (σk2 : CS) (σm2 : OS) (fo2 : Nat → Int64) (fd2 : Nat → UInt64), R σk2 σm2 → J (k + 1) (n + 6) ((o, .inl (t 4, 1, .inr (.inl fo2))) :: (od, .inl (t 5, 1, .inr (.inr (.inr (.inl fd2))))) :: (mC am t σm2 ++ kW aa ad t σk2 [])) 2781 [(5, .int i), (4, .ref od), (3, .ref o), (2, .ref (am 0)), (1, .ref (ad 0)), (0, .ref b)] []) : J k n ((o, .inl (t 4, 1, .inr (.inl fo))) :: (od, .inl (t 5, 1, .inr (.inr (.inr (.inl fd))))) :: (mC am t σm ++ kW aa ad t σk [])) 2009 [(5, .int i), (4, .ref od), (3, .ref o), (2, .ref (am 0)), (1, .ref (ad 0)), (0, .ref b)] [] := by
  have g := gl.g
  have hkk : k ≤ room_1.cells := by omega
  have hnn : n ≤ room_1.slots := by omega
  obtain ⟨r, σm1, hm, hf, hR⟩ := hag
  refine j_aload_n (pc := 2009) g 4 dL_law_2009 rfl ?_
  refine j_callVi (pc := 2010) (na := 0) (As := []) (rest := []) (q0 := 10) (ci := 9) (w' := ((o, .inl (t 4, 1, .inr (.inl fo))) :: (od, .inl (t 5, 1, .inr (.inr (.inr (.inl fd))))) :: (mC am t σm ++ kW aa ad t σk []))) g (cX8_executedOrders_ (rs := (o, .inl (t 4, 1, .inr (.inl fo))) :: (od, .inl (t 5, 1, .inr (.inr (.inr (.inl fd))))) :: mC am t σm) hf) q_i_X8_executedOrders q_s_X8_executedOrders rfl rfl (lw_at9 aa ad am t σk σm _ _) q_c_X8_executedOrders q_l_L_262 q_n_X8 (by decide +kernel) rfl ⟨Nat.le_of_ble_eq_true rfl, Nat.le_of_ble_eq_true rfl⟩ ⟨hkk, hnn⟩ (Nat.le_of_ble_eq_true rfl) (lw_pm_k aa ad am t σk σm _ _) (lw_pm_k aa ad am t σk σm _ _).symm dL_law_2010 ?_ rfl
  refine j_aload_n (pc := 2013) g 3 dL_law_2013 rfl ?_
  refine j_callVi (pc := 2014) (na := 0) (As := []) (rest := [.int r]) (q0 := 2) (ci := 10) (w' := ((o, .inl (t 4, 1, .inr (.inl fo))) :: (od, .inl (t 5, 1, .inr (.inr (.inr (.inl fd))))) :: (mC am t σm1 ++ kW aa ad t σk []))) g (cX9_executedOrders_ (rs := (o, .inl (t 4, 1, .inr (.inl fo))) :: (od, .inl (t 5, 1, .inr (.inr (.inr (.inl fd))))) :: kW aa ad t σk []) hm) q_i_X9_executedOrders q_s_X9_executedOrders rfl rfl rfl q_c_X9_executedOrders q_l_L_265 q_n_X9 (by decide +kernel) rfl ⟨Nat.le_of_ble_eq_true rfl, Nat.le_of_ble_eq_true rfl⟩ ⟨hkk, hnn⟩ (Nat.le_of_ble_eq_true rfl) (lw_pm_m aa ad am t σk σm _ _) (lw_pm_m aa ad am t σk σm1 _ _).symm dL_law_2014 ?_ rfl
  refine j_icmp_eq (tgt := 2781) (pc := 2017) g dL_law_2017 (by decide) (fun _ => ?_) (fun h9 => absurd rfl h9)
  refine j_sub (pc := 2781) g [0, 1, 2, 3, 4, 5] rfl ?_
  exact j_widen g (by omega) (by omega) (next σk σm1 fo fd hR)
set_option maxRecDepth 100000 in
set_option maxHeartbeats 4000000 in
theorem lw_c33 {D : va_G} {t : Nat → ClassId} {aa : gx_AA} {l : Launch} {J : gx_J} {b Ln : Nat} {xs : Nat → Int32} (gl : gx_GL D t (gx_E0 aa) l room_1 cL_law RL 10 J b Ln xs) (hst : l.stackTraces = false) {k n : Nat} (hk : k + 1 ≤ room_1.cells) (hn : n + 6 ≤ room_1.slots) {i : Int32} (h1 : vp_in (i + 1) Ln) (h2 : vp_in (i + 2) Ln) (h3 : vp_in (i + 3) Ln) {ad am : Nat → Nat} {o od : Nat} {σk : CS} {σm : OS} {fo : Nat → Int64} {fd : Nat → UInt64} {R : CS → OS → Prop} (hag : Ag_refusedOrders R σk σm) (next : ∀ (σk2 : CS) (σm2 : OS) (fo2 : Nat → Int64) (fd2 : Nat → UInt64), R σk2 σm2 → J (k + 1) (n + 6) ((o, .inl (t 4, 1, .inr (.inl fo2))) :: (od, .inl (t 5, 1, .inr (.inr (.inr (.inl fd2))))) :: (mC am t σm2 ++ kW aa ad t σk2 [])) 2781 [(5, .int i), (4, .ref od), (3, .ref o), (2, .ref (am 0)), (1, .ref (ad 0)), (0, .ref b)] []) : J k n ((o, .inl (t 4, 1, .inr (.inl fo))) :: (od, .inl (t 5, 1, .inr (.inr (.inr (.inl fd))))) :: (mC am t σm ++ kW aa ad t σk [])) 2022 [(5, .int i), (4, .ref od), (3, .ref o), (2, .ref (am 0)), (1, .ref (ad 0)), (0, .ref b)] [] := by
  have g := gl.g
  have hkk : k ≤ room_1.cells := by omega
  have hnn : n ≤ room_1.slots := by omega
  obtain ⟨r, σm1, hm, hf, hR⟩ := hag
  refine j_aload_n (pc := 2022) g 4 dL_law_2022 rfl ?_
  refine j_callVi (pc := 2023) (na := 0) (As := []) (rest := []) (q0 := 10) (ci := 9) (w' := ((o, .inl (t 4, 1, .inr (.inl fo))) :: (od, .inl (t 5, 1, .inr (.inr (.inr (.inl fd))))) :: (mC am t σm ++ kW aa ad t σk []))) g (cX8_refusedOrders_ (rs := (o, .inl (t 4, 1, .inr (.inl fo))) :: (od, .inl (t 5, 1, .inr (.inr (.inr (.inl fd))))) :: mC am t σm) hf) q_i_X8_refusedOrders q_s_X8_refusedOrders rfl rfl (lw_at9 aa ad am t σk σm _ _) q_c_X8_refusedOrders q_l_L_266 q_n_X8 (by decide +kernel) rfl ⟨Nat.le_of_ble_eq_true rfl, Nat.le_of_ble_eq_true rfl⟩ ⟨hkk, hnn⟩ (Nat.le_of_ble_eq_true rfl) (lw_pm_k aa ad am t σk σm _ _) (lw_pm_k aa ad am t σk σm _ _).symm dL_law_2023 ?_ rfl
  refine j_aload_n (pc := 2026) g 3 dL_law_2026 rfl ?_
  refine j_callVi (pc := 2027) (na := 0) (As := []) (rest := [.int r]) (q0 := 2) (ci := 10) (w' := ((o, .inl (t 4, 1, .inr (.inl fo))) :: (od, .inl (t 5, 1, .inr (.inr (.inr (.inl fd))))) :: (mC am t σm1 ++ kW aa ad t σk []))) g (cX9_refusedOrders_ (rs := (o, .inl (t 4, 1, .inr (.inl fo))) :: (od, .inl (t 5, 1, .inr (.inr (.inr (.inl fd))))) :: kW aa ad t σk []) hm) q_i_X9_refusedOrders q_s_X9_refusedOrders rfl rfl rfl q_c_X9_refusedOrders q_l_L_269 q_n_X9 (by decide +kernel) rfl ⟨Nat.le_of_ble_eq_true rfl, Nat.le_of_ble_eq_true rfl⟩ ⟨hkk, hnn⟩ (Nat.le_of_ble_eq_true rfl) (lw_pm_m aa ad am t σk σm _ _) (lw_pm_m aa ad am t σk σm1 _ _).symm dL_law_2027 ?_ rfl
  refine j_icmp_eq (tgt := 2781) (pc := 2030) g dL_law_2030 (by decide) (fun _ => ?_) (fun h9 => absurd rfl h9)
  refine j_sub (pc := 2781) g [0, 1, 2, 3, 4, 5] rfl ?_
  exact j_widen g (by omega) (by omega) (next σk σm1 fo fd hR)
set_option maxRecDepth 100000 in
set_option maxHeartbeats 4000000 in
theorem lw_c34 {D : va_G} {t : Nat → ClassId} {aa : gx_AA} {l : Launch} {J : gx_J} {b Ln : Nat} {xs : Nat → Int32} (gl : gx_GL D t (gx_E0 aa) l room_1 cL_law RL 10 J b Ln xs) (hst : l.stackTraces = false) {k n : Nat} (hk : k + 1 ≤ room_1.cells) (hn : n + 6 ≤ room_1.slots) {i : Int32} (h1 : vp_in (i + 1) Ln) (h2 : vp_in (i + 2) Ln) (h3 : vp_in (i + 3) Ln) {ad am : Nat → Nat} {o od : Nat} {σk : CS} {σm : OS} {fo : Nat → Int64} {fd : Nat → UInt64} {R : CS → OS → Prop} (hag : Ag_lostOrders R σk σm) (next : ∀ (σk2 : CS) (σm2 : OS) (fo2 : Nat → Int64) (fd2 : Nat → UInt64), R σk2 σm2 → J (k + 1) (n + 6) ((o, .inl (t 4, 1, .inr (.inl fo2))) :: (od, .inl (t 5, 1, .inr (.inr (.inr (.inl fd2))))) :: (mC am t σm2 ++ kW aa ad t σk2 [])) 2781 [(5, .int i), (4, .ref od), (3, .ref o), (2, .ref (am 0)), (1, .ref (ad 0)), (0, .ref b)] []) : J k n ((o, .inl (t 4, 1, .inr (.inl fo))) :: (od, .inl (t 5, 1, .inr (.inr (.inr (.inl fd))))) :: (mC am t σm ++ kW aa ad t σk [])) 2035 [(5, .int i), (4, .ref od), (3, .ref o), (2, .ref (am 0)), (1, .ref (ad 0)), (0, .ref b)] [] := by
  have g := gl.g
  have hkk : k ≤ room_1.cells := by omega
  have hnn : n ≤ room_1.slots := by omega
  obtain ⟨r, σm1, hm, hf, hR⟩ := hag
  refine j_aload_n (pc := 2035) g 4 dL_law_2035 rfl ?_
  refine j_callVi (pc := 2036) (na := 0) (As := []) (rest := []) (q0 := 10) (ci := 9) (w' := ((o, .inl (t 4, 1, .inr (.inl fo))) :: (od, .inl (t 5, 1, .inr (.inr (.inr (.inl fd))))) :: (mC am t σm ++ kW aa ad t σk []))) g (cX8_lostOrders_ (rs := (o, .inl (t 4, 1, .inr (.inl fo))) :: (od, .inl (t 5, 1, .inr (.inr (.inr (.inl fd))))) :: mC am t σm) hf) q_i_X8_lostOrders q_s_X8_lostOrders rfl rfl (lw_at9 aa ad am t σk σm _ _) q_c_X8_lostOrders q_l_L_270 q_n_X8 (by decide +kernel) rfl ⟨Nat.le_of_ble_eq_true rfl, Nat.le_of_ble_eq_true rfl⟩ ⟨hkk, hnn⟩ (Nat.le_of_ble_eq_true rfl) (lw_pm_k aa ad am t σk σm _ _) (lw_pm_k aa ad am t σk σm _ _).symm dL_law_2036 ?_ rfl
  refine j_aload_n (pc := 2039) g 3 dL_law_2039 rfl ?_
  refine j_callVi (pc := 2040) (na := 0) (As := []) (rest := [.int r]) (q0 := 2) (ci := 10) (w' := ((o, .inl (t 4, 1, .inr (.inl fo))) :: (od, .inl (t 5, 1, .inr (.inr (.inr (.inl fd))))) :: (mC am t σm1 ++ kW aa ad t σk []))) g (cX9_lostOrders_ (rs := (o, .inl (t 4, 1, .inr (.inl fo))) :: (od, .inl (t 5, 1, .inr (.inr (.inr (.inl fd))))) :: kW aa ad t σk []) hm) q_i_X9_lostOrders q_s_X9_lostOrders rfl rfl rfl q_c_X9_lostOrders q_l_L_273 q_n_X9 (by decide +kernel) rfl ⟨Nat.le_of_ble_eq_true rfl, Nat.le_of_ble_eq_true rfl⟩ ⟨hkk, hnn⟩ (Nat.le_of_ble_eq_true rfl) (lw_pm_m aa ad am t σk σm _ _) (lw_pm_m aa ad am t σk σm1 _ _).symm dL_law_2040 ?_ rfl
  refine j_icmp_eq (tgt := 2781) (pc := 2043) g dL_law_2043 (by decide) (fun _ => ?_) (fun h9 => absurd rfl h9)
  refine j_sub (pc := 2781) g [0, 1, 2, 3, 4, 5] rfl ?_
  exact j_widen g (by omega) (by omega) (next σk σm1 fo fd hR)
set_option maxRecDepth 100000 in
set_option maxHeartbeats 4000000 in
theorem lw_c35 {D : va_G} {t : Nat → ClassId} {aa : gx_AA} {l : Launch} {J : gx_J} {b Ln : Nat} {xs : Nat → Int32} (gl : gx_GL D t (gx_E0 aa) l room_1 cL_law RL 10 J b Ln xs) (hst : l.stackTraces = false) {k n : Nat} (hk : k + 1 ≤ room_1.cells) (hn : n + 6 ≤ room_1.slots) {i : Int32} (h1 : vp_in (i + 1) Ln) (h2 : vp_in (i + 2) Ln) (h3 : vp_in (i + 3) Ln) {ad am : Nat → Nat} {o od : Nat} {σk : CS} {σm : OS} {fo : Nat → Int64} {fd : Nat → UInt64} {R : CS → OS → Prop} (hag : Ag_flagCount R σk σm) (next : ∀ (σk2 : CS) (σm2 : OS) (fo2 : Nat → Int64) (fd2 : Nat → UInt64), R σk2 σm2 → J (k + 1) (n + 6) ((o, .inl (t 4, 1, .inr (.inl fo2))) :: (od, .inl (t 5, 1, .inr (.inr (.inr (.inl fd2))))) :: (mC am t σm2 ++ kW aa ad t σk2 [])) 2781 [(5, .int i), (4, .ref od), (3, .ref o), (2, .ref (am 0)), (1, .ref (ad 0)), (0, .ref b)] []) : J k n ((o, .inl (t 4, 1, .inr (.inl fo))) :: (od, .inl (t 5, 1, .inr (.inr (.inr (.inl fd))))) :: (mC am t σm ++ kW aa ad t σk [])) 2048 [(5, .int i), (4, .ref od), (3, .ref o), (2, .ref (am 0)), (1, .ref (ad 0)), (0, .ref b)] [] := by
  have g := gl.g
  have hkk : k ≤ room_1.cells := by omega
  have hnn : n ≤ room_1.slots := by omega
  obtain ⟨r, σm1, hm, hf, hR⟩ := hag
  refine j_aload_n (pc := 2048) g 4 dL_law_2048 rfl ?_
  refine j_callVi (pc := 2049) (na := 0) (As := []) (rest := []) (q0 := 10) (ci := 9) (w' := ((o, .inl (t 4, 1, .inr (.inl fo))) :: (od, .inl (t 5, 1, .inr (.inr (.inr (.inl fd))))) :: (mC am t σm ++ kW aa ad t σk []))) g (cX8_flagCount_ (rs := (o, .inl (t 4, 1, .inr (.inl fo))) :: (od, .inl (t 5, 1, .inr (.inr (.inr (.inl fd))))) :: mC am t σm) hf) q_i_X8_flagCount q_s_X8_flagCount rfl rfl (lw_at9 aa ad am t σk σm _ _) q_c_X8_flagCount q_l_L_274 q_n_X8 (by decide +kernel) rfl ⟨Nat.le_of_ble_eq_true rfl, Nat.le_of_ble_eq_true rfl⟩ ⟨hkk, hnn⟩ (Nat.le_of_ble_eq_true rfl) (lw_pm_k aa ad am t σk σm _ _) (lw_pm_k aa ad am t σk σm _ _).symm dL_law_2049 ?_ rfl
  refine j_aload_n (pc := 2052) g 3 dL_law_2052 rfl ?_
  refine j_callVi (pc := 2053) (na := 0) (As := []) (rest := [.int r]) (q0 := 2) (ci := 10) (w' := ((o, .inl (t 4, 1, .inr (.inl fo))) :: (od, .inl (t 5, 1, .inr (.inr (.inr (.inl fd))))) :: (mC am t σm1 ++ kW aa ad t σk []))) g (cX9_flagCount_ (rs := (o, .inl (t 4, 1, .inr (.inl fo))) :: (od, .inl (t 5, 1, .inr (.inr (.inr (.inl fd))))) :: kW aa ad t σk []) hm) q_i_X9_flagCount q_s_X9_flagCount rfl rfl rfl q_c_X9_flagCount q_l_L_277 q_n_X9 (by decide +kernel) rfl ⟨Nat.le_of_ble_eq_true rfl, Nat.le_of_ble_eq_true rfl⟩ ⟨hkk, hnn⟩ (Nat.le_of_ble_eq_true rfl) (lw_pm_m aa ad am t σk σm _ _) (lw_pm_m aa ad am t σk σm1 _ _).symm dL_law_2053 ?_ rfl
  refine j_icmp_eq (tgt := 2781) (pc := 2056) g dL_law_2056 (by decide) (fun _ => ?_) (fun h9 => absurd rfl h9)
  refine j_sub (pc := 2781) g [0, 1, 2, 3, 4, 5] rfl ?_
  exact j_widen g (by omega) (by omega) (next σk σm1 fo fd hR)
set_option maxRecDepth 100000 in
set_option maxHeartbeats 4000000 in
theorem lw_c36 {D : va_G} {t : Nat → ClassId} {aa : gx_AA} {l : Launch} {J : gx_J} {b Ln : Nat} {xs : Nat → Int32} (gl : gx_GL D t (gx_E0 aa) l room_1 cL_law RL 10 J b Ln xs) (hst : l.stackTraces = false) {k n : Nat} (hk : k + 1 ≤ room_1.cells) (hn : n + 6 ≤ room_1.slots) {i : Int32} (h1 : vp_in (i + 1) Ln) (h2 : vp_in (i + 2) Ln) (h3 : vp_in (i + 3) Ln) {ad am : Nat → Nat} {o od : Nat} {σk : CS} {σm : OS} {fo : Nat → Int64} {fd : Nat → UInt64} {R : CS → OS → Prop} (hag : Ag_meaning R σk σm (((xs (i + 1).toNatClampNeg).toUInt32 % 65536).toInt32) (((xs (i + 2).toNatClampNeg).toUInt32 % 65536).toInt32)) (next : ∀ (σk2 : CS) (σm2 : OS) (fo2 : Nat → Int64) (fd2 : Nat → UInt64), R σk2 σm2 → J (k + 1) (n + 6) ((o, .inl (t 4, 1, .inr (.inl fo2))) :: (od, .inl (t 5, 1, .inr (.inr (.inr (.inl fd2))))) :: (mC am t σm2 ++ kW aa ad t σk2 [])) 2781 [(5, .int i), (4, .ref od), (3, .ref o), (2, .ref (am 0)), (1, .ref (ad 0)), (0, .ref b)] []) : J k n ((o, .inl (t 4, 1, .inr (.inl fo))) :: (od, .inl (t 5, 1, .inr (.inr (.inr (.inl fd))))) :: (mC am t σm ++ kW aa ad t σk [])) 2061 [(5, .int i), (4, .ref od), (3, .ref o), (2, .ref (am 0)), (1, .ref (ad 0)), (0, .ref b)] [] := by
  have g := gl.g
  have hkk : k ≤ room_1.cells := by omega
  have hnn : n ≤ room_1.slots := by omega
  obtain ⟨r, σm1, hm, hag⟩ := hag
  rcases hag with ⟨hf, h0, hR⟩ | ⟨σk1, hf, h0, hR⟩ | ⟨σk1, hf, h0, hR⟩
  · refine j_aload_n (pc := 2061) g 4 dL_law_2061 rfl ?_
    refine j_aload_n (pc := 2062) g 5 dL_law_2062 rfl ?_
    refine j_iload (pc := 2063) g 0 dL_law_2063 rfl ?_
    refine j_iconst (v := 1) (pc := 2065) g dL_law_2065 (by decide) ?_
    refine j_iadd (pc := 2066) g dL_law_2066 ?_
    refine j_sld (pc := 2067) gl h1 dL_law_2067 ?_
    refine j_i2c (pc := 2068) g dL_law_2068 ?_
    refine j_aload_n (pc := 2069) g 5 dL_law_2069 rfl ?_
    refine j_iload (pc := 2070) g 0 dL_law_2070 rfl ?_
    refine j_iconst (v := 2) (pc := 2072) g dL_law_2072 (by decide) ?_
    refine j_iadd (pc := 2073) g dL_law_2073 ?_
    refine j_sld (pc := 2074) gl h2 dL_law_2074 ?_
    refine j_i2c (pc := 2075) g dL_law_2075 ?_
    refine j_aload_n (pc := 2076) g 2 dL_law_2076 rfl ?_
    refine j_callH (pc := 2077) (na := 4) (As := [.ref (ad 0), .int (((xs (i + 1).toNatClampNeg).toUInt32 % 65536).toInt32), .int (((xs (i + 2).toNatClampNeg).toUInt32 % 65536).toInt32), .ref o]) (rest := []) (r := 0) (w' := ((o, .inl (t 4, 1, .inr (.inl (vp_updL fo (0 : Int32).toNatClampNeg r.toInt64)))) :: (od, .inl (t 5, 1, .inr (.inr (.inr (.inl fd))))) :: (mC am t σm ++ kW aa ad t σk []))) g (hL_meaning_ok (rs := (od, .inl (t 5, 1, .inr (.inr (.inr (.inl fd))))) :: mC am t σm) hst hf) q_t_L_meaning q_w_L_meaning q_l_L_278 q_n_L (by decide) (by decide +kernel) rfl ⟨Nat.le_of_ble_eq_true rfl, Nat.le_of_ble_eq_true rfl⟩ ⟨by omega, by omega⟩ (Nat.le_of_ble_eq_true rfl) (lw_pm_h aa ad am t σk σm _ _) (lw_pm_h aa ad am t σk σm _ _).symm dL_law_2077 ?_ rfl
    have hkk : k + 0 ≤ room_1.cells := by omega
    have hnn : n + 0 ≤ room_1.slots := by omega
    refine j_istore (L' := [(6, .int 0), (5, .int i), (4, .ref od), (3, .ref o), (2, .ref (am 0)), (1, .ref (ad 0)), (0, .ref b)]) (pc := 2080) g dL_law_2080 (Nat.le_of_ble_eq_true rfl) rfl ?_
    refine j_aload_n (pc := 2082) g 4 dL_law_2082 rfl ?_
    refine j_aload_n (pc := 2083) g 6 dL_law_2083 rfl ?_
    refine j_iload (pc := 2084) g 1 dL_law_2084 rfl ?_
    refine j_iconst (v := 1) (pc := 2086) g dL_law_2086 (by decide) ?_
    refine j_iadd (pc := 2087) g dL_law_2087 ?_
    refine j_sld (pc := 2088) gl h1 dL_law_2088 ?_
    refine j_i2c (pc := 2089) g dL_law_2089 ?_
    refine j_aload_n (pc := 2090) g 6 dL_law_2090 rfl ?_
    refine j_iload (pc := 2091) g 1 dL_law_2091 rfl ?_
    refine j_iconst (v := 2) (pc := 2093) g dL_law_2093 (by decide) ?_
    refine j_iadd (pc := 2094) g dL_law_2094 ?_
    refine j_sld (pc := 2095) gl h2 dL_law_2095 ?_
    refine j_i2c (pc := 2096) g dL_law_2096 ?_
    refine j_callVi (pc := 2097) (na := 2) (As := [.int (((xs (i + 1).toNatClampNeg).toUInt32 % 65536).toInt32), .int (((xs (i + 2).toNatClampNeg).toUInt32 % 65536).toInt32)]) (rest := []) (q0 := 2) (ci := 10) (w' := ((o, .inl (t 4, 1, .inr (.inl (vp_updL fo (0 : Int32).toNatClampNeg r.toInt64)))) :: (od, .inl (t 5, 1, .inr (.inr (.inr (.inl fd))))) :: (mC am t σm1 ++ kW aa ad t σk []))) g (cX9_meaning_ (rs := (o, .inl (t 4, 1, .inr (.inl (vp_updL fo (0 : Int32).toNatClampNeg r.toInt64)))) :: (od, .inl (t 5, 1, .inr (.inr (.inr (.inl fd))))) :: kW aa ad t σk []) hm) q_i_X9_meaning q_s_X9_meaning rfl rfl rfl q_c_X9_meaning q_l_L_280 q_n_X9 (by decide +kernel) rfl ⟨Nat.le_of_ble_eq_true rfl, Nat.le_of_ble_eq_true rfl⟩ ⟨hkk, hnn⟩ (Nat.le_of_ble_eq_true rfl) (lw_pm_m aa ad am t σk σm _ _) (lw_pm_m aa ad am t σk σm1 _ _).symm dL_law_2097 ?_ rfl
    refine j_istore (L' := [(7, .int r), (6, .int 0), (5, .int i), (4, .ref od), (3, .ref o), (2, .ref (am 0)), (1, .ref (ad 0)), (0, .ref b)]) (pc := 2100) g dL_law_2100 (Nat.le_of_ble_eq_true rfl) rfl ?_
    refine j_aload_n (pc := 2102) g 5 dL_law_2102 rfl ?_
    refine j_callVi (pc := 2103) (na := 0) (As := []) (rest := []) (q0 := 2) (ci := 10) (w' := ((o, .inl (t 4, 1, .inr (.inl (vp_updL fo (0 : Int32).toNatClampNeg r.toInt64)))) :: (od, .inl (t 5, 1, .inr (.inr (.inr (.inl fd))))) :: (mC am t σm1 ++ kW aa ad t σk []))) g (cX9_thrown_ (rs := (o, .inl (t 4, 1, .inr (.inl (vp_updL fo (0 : Int32).toNatClampNeg r.toInt64)))) :: (od, .inl (t 5, 1, .inr (.inr (.inr (.inl fd))))) :: kW aa ad t σk []) rfl) q_i_X9_thrown q_s_X9_thrown rfl rfl rfl q_c_X9_thrown q_l_L_155 q_n_X9 (by decide +kernel) rfl ⟨Nat.le_of_ble_eq_true rfl, Nat.le_of_ble_eq_true rfl⟩ ⟨hkk, hnn⟩ (Nat.le_of_ble_eq_true rfl) (lw_pm_m aa ad am t σk σm1 _ _) (lw_pm_m aa ad am t σk σm1 _ _).symm dL_law_2103 ?_ rfl
    refine j_iload (pc := 2106) g 1 dL_law_2106 rfl ?_
    refine j_icmp_eq (tgt := 2113) (pc := 2108) g dL_law_2108 (by decide) (fun _ => ?_) (fun h9 => absurd h0 h9)
    refine j_iload (pc := 2113) g 1 dL_law_2113 rfl ?_
    refine j_if_ne (tgt := 2130) (pc := 2115) g dL_law_2115 (by decide) (fun h9 => absurd rfl h9) (fun _ => ?_)
    refine j_aload_n (pc := 2118) g 4 dL_law_2118 rfl ?_
    refine j_iconst (v := 0) (pc := 2119) g dL_law_2119 (by decide) ?_
    refine j_lald (pc := 2120) g 0 rfl (show gx_in (0 : Int32) 1 by decide) dL_law_2120 ?_
    refine j_iload (pc := 2121) g 0 dL_law_2121 rfl ?_
    refine j_i2l (pc := 2123) g dL_law_2123 ?_
    refine j_lcmp (pc := 2124) g dL_law_2124 ?_
    refine j_if_eq (tgt := 2130) (pc := 2125) g dL_law_2125 (by decide) (fun _ => ?_) (fun h9 => absurd (lw_cmp0 _) h9)
    refine j_goto (tgt := 2781) (pc := 2130) g dL_law_2130 (by decide) ?_
    refine j_sub (pc := 2781) g [2, 3, 4, 5, 6, 7] rfl ?_
    exact j_widen g (by omega) (by omega) (next σk σm1 (vp_updL fo (0 : Int32).toNatClampNeg r.toInt64) fd hR)
  · refine j_aload_n (pc := 2061) g 4 dL_law_2061 rfl ?_
    refine j_aload_n (pc := 2062) g 5 dL_law_2062 rfl ?_
    refine j_iload (pc := 2063) g 0 dL_law_2063 rfl ?_
    refine j_iconst (v := 1) (pc := 2065) g dL_law_2065 (by decide) ?_
    refine j_iadd (pc := 2066) g dL_law_2066 ?_
    refine j_sld (pc := 2067) gl h1 dL_law_2067 ?_
    refine j_i2c (pc := 2068) g dL_law_2068 ?_
    refine j_aload_n (pc := 2069) g 5 dL_law_2069 rfl ?_
    refine j_iload (pc := 2070) g 0 dL_law_2070 rfl ?_
    refine j_iconst (v := 2) (pc := 2072) g dL_law_2072 (by decide) ?_
    refine j_iadd (pc := 2073) g dL_law_2073 ?_
    refine j_sld (pc := 2074) gl h2 dL_law_2074 ?_
    refine j_i2c (pc := 2075) g dL_law_2075 ?_
    refine j_aload_n (pc := 2076) g 2 dL_law_2076 rfl ?_
    refine j_callH (pc := 2077) (na := 4) (As := [.ref (ad 0), .int (((xs (i + 1).toNatClampNeg).toUInt32 % 65536).toInt32), .int (((xs (i + 2).toNatClampNeg).toUInt32 % 65536).toInt32), .ref o]) (rest := []) (r := 1) (w' := ((o, .inl (t 4, 1, .inr (.inl fo))) :: (od, .inl (t 5, 1, .inr (.inr (.inr (.inl fd))))) :: (mC am t σm ++ kW aa ad t σk1 []))) g (hL_meaning_x1 (rs := (od, .inl (t 5, 1, .inr (.inr (.inr (.inl fd))))) :: mC am t σm) hst hf) q_t_L_meaning q_w_L_meaning q_l_L_278 q_n_L (by decide) (by decide +kernel) rfl ⟨Nat.le_of_ble_eq_true rfl, Nat.le_of_ble_eq_true rfl⟩ ⟨by omega, by omega⟩ (Nat.le_of_ble_eq_true rfl) (lw_pm_h aa ad am t σk σm _ _) (lw_pm_h aa ad am t σk1 σm _ _).symm dL_law_2077 ?_ rfl
    have hkk : k + 1 ≤ room_1.cells := by omega
    have hnn : n + 6 ≤ room_1.slots := by omega
    refine j_istore (L' := [(6, .int 1), (5, .int i), (4, .ref od), (3, .ref o), (2, .ref (am 0)), (1, .ref (ad 0)), (0, .ref b)]) (pc := 2080) g dL_law_2080 (Nat.le_of_ble_eq_true rfl) rfl ?_
    refine j_aload_n (pc := 2082) g 4 dL_law_2082 rfl ?_
    refine j_aload_n (pc := 2083) g 6 dL_law_2083 rfl ?_
    refine j_iload (pc := 2084) g 1 dL_law_2084 rfl ?_
    refine j_iconst (v := 1) (pc := 2086) g dL_law_2086 (by decide) ?_
    refine j_iadd (pc := 2087) g dL_law_2087 ?_
    refine j_sld (pc := 2088) gl h1 dL_law_2088 ?_
    refine j_i2c (pc := 2089) g dL_law_2089 ?_
    refine j_aload_n (pc := 2090) g 6 dL_law_2090 rfl ?_
    refine j_iload (pc := 2091) g 1 dL_law_2091 rfl ?_
    refine j_iconst (v := 2) (pc := 2093) g dL_law_2093 (by decide) ?_
    refine j_iadd (pc := 2094) g dL_law_2094 ?_
    refine j_sld (pc := 2095) gl h2 dL_law_2095 ?_
    refine j_i2c (pc := 2096) g dL_law_2096 ?_
    refine j_callVi (pc := 2097) (na := 2) (As := [.int (((xs (i + 1).toNatClampNeg).toUInt32 % 65536).toInt32), .int (((xs (i + 2).toNatClampNeg).toUInt32 % 65536).toInt32)]) (rest := []) (q0 := 2) (ci := 10) (w' := ((o, .inl (t 4, 1, .inr (.inl fo))) :: (od, .inl (t 5, 1, .inr (.inr (.inr (.inl fd))))) :: (mC am t σm1 ++ kW aa ad t σk1 []))) g (cX9_meaning_ (rs := (o, .inl (t 4, 1, .inr (.inl fo))) :: (od, .inl (t 5, 1, .inr (.inr (.inr (.inl fd))))) :: kW aa ad t σk1 []) hm) q_i_X9_meaning q_s_X9_meaning rfl rfl rfl q_c_X9_meaning q_l_L_280 q_n_X9 (by decide +kernel) rfl ⟨Nat.le_of_ble_eq_true rfl, Nat.le_of_ble_eq_true rfl⟩ ⟨hkk, hnn⟩ (Nat.le_of_ble_eq_true rfl) (lw_pm_m aa ad am t σk1 σm _ _) (lw_pm_m aa ad am t σk1 σm1 _ _).symm dL_law_2097 ?_ rfl
    refine j_istore (L' := [(7, .int r), (6, .int 1), (5, .int i), (4, .ref od), (3, .ref o), (2, .ref (am 0)), (1, .ref (ad 0)), (0, .ref b)]) (pc := 2100) g dL_law_2100 (Nat.le_of_ble_eq_true rfl) rfl ?_
    refine j_aload_n (pc := 2102) g 5 dL_law_2102 rfl ?_
    refine j_callVi (pc := 2103) (na := 0) (As := []) (rest := []) (q0 := 2) (ci := 10) (w' := ((o, .inl (t 4, 1, .inr (.inl fo))) :: (od, .inl (t 5, 1, .inr (.inr (.inr (.inl fd))))) :: (mC am t σm1 ++ kW aa ad t σk1 []))) g (cX9_thrown_ (rs := (o, .inl (t 4, 1, .inr (.inl fo))) :: (od, .inl (t 5, 1, .inr (.inr (.inr (.inl fd))))) :: kW aa ad t σk1 []) rfl) q_i_X9_thrown q_s_X9_thrown rfl rfl rfl q_c_X9_thrown q_l_L_155 q_n_X9 (by decide +kernel) rfl ⟨Nat.le_of_ble_eq_true rfl, Nat.le_of_ble_eq_true rfl⟩ ⟨hkk, hnn⟩ (Nat.le_of_ble_eq_true rfl) (lw_pm_m aa ad am t σk1 σm1 _ _) (lw_pm_m aa ad am t σk1 σm1 _ _).symm dL_law_2103 ?_ rfl
    refine j_iload (pc := 2106) g 1 dL_law_2106 rfl ?_
    refine j_icmp_eq (tgt := 2113) (pc := 2108) g dL_law_2108 (by decide) (fun _ => ?_) (fun h9 => absurd h0 h9)
    refine j_iload (pc := 2113) g 1 dL_law_2113 rfl ?_
    refine j_if_ne (tgt := 2130) (pc := 2115) g dL_law_2115 (by decide) (fun _ => ?_) (fun h9 => absurd h9 (by decide))
    refine j_goto (tgt := 2781) (pc := 2130) g dL_law_2130 (by decide) ?_
    refine j_sub (pc := 2781) g [2, 3, 4, 5, 6, 7] rfl ?_
    exact j_widen g (by omega) (by omega) (next σk1 σm1 fo fd hR)
  · refine j_aload_n (pc := 2061) g 4 dL_law_2061 rfl ?_
    refine j_aload_n (pc := 2062) g 5 dL_law_2062 rfl ?_
    refine j_iload (pc := 2063) g 0 dL_law_2063 rfl ?_
    refine j_iconst (v := 1) (pc := 2065) g dL_law_2065 (by decide) ?_
    refine j_iadd (pc := 2066) g dL_law_2066 ?_
    refine j_sld (pc := 2067) gl h1 dL_law_2067 ?_
    refine j_i2c (pc := 2068) g dL_law_2068 ?_
    refine j_aload_n (pc := 2069) g 5 dL_law_2069 rfl ?_
    refine j_iload (pc := 2070) g 0 dL_law_2070 rfl ?_
    refine j_iconst (v := 2) (pc := 2072) g dL_law_2072 (by decide) ?_
    refine j_iadd (pc := 2073) g dL_law_2073 ?_
    refine j_sld (pc := 2074) gl h2 dL_law_2074 ?_
    refine j_i2c (pc := 2075) g dL_law_2075 ?_
    refine j_aload_n (pc := 2076) g 2 dL_law_2076 rfl ?_
    refine j_callH (pc := 2077) (na := 4) (As := [.ref (ad 0), .int (((xs (i + 1).toNatClampNeg).toUInt32 % 65536).toInt32), .int (((xs (i + 2).toNatClampNeg).toUInt32 % 65536).toInt32), .ref o]) (rest := []) (r := 2) (w' := ((o, .inl (t 4, 1, .inr (.inl fo))) :: (od, .inl (t 5, 1, .inr (.inr (.inr (.inl fd))))) :: (mC am t σm ++ kW aa ad t σk1 []))) g (hL_meaning_x2 (rs := (od, .inl (t 5, 1, .inr (.inr (.inr (.inl fd))))) :: mC am t σm) hst hf) q_t_L_meaning q_w_L_meaning q_l_L_278 q_n_L (by decide) (by decide +kernel) rfl ⟨Nat.le_of_ble_eq_true rfl, Nat.le_of_ble_eq_true rfl⟩ ⟨by omega, by omega⟩ (Nat.le_of_ble_eq_true rfl) (lw_pm_h aa ad am t σk σm _ _) (lw_pm_h aa ad am t σk1 σm _ _).symm dL_law_2077 ?_ rfl
    have hkk : k + 1 ≤ room_1.cells := by omega
    have hnn : n + 6 ≤ room_1.slots := by omega
    refine j_istore (L' := [(6, .int 2), (5, .int i), (4, .ref od), (3, .ref o), (2, .ref (am 0)), (1, .ref (ad 0)), (0, .ref b)]) (pc := 2080) g dL_law_2080 (Nat.le_of_ble_eq_true rfl) rfl ?_
    refine j_aload_n (pc := 2082) g 4 dL_law_2082 rfl ?_
    refine j_aload_n (pc := 2083) g 6 dL_law_2083 rfl ?_
    refine j_iload (pc := 2084) g 1 dL_law_2084 rfl ?_
    refine j_iconst (v := 1) (pc := 2086) g dL_law_2086 (by decide) ?_
    refine j_iadd (pc := 2087) g dL_law_2087 ?_
    refine j_sld (pc := 2088) gl h1 dL_law_2088 ?_
    refine j_i2c (pc := 2089) g dL_law_2089 ?_
    refine j_aload_n (pc := 2090) g 6 dL_law_2090 rfl ?_
    refine j_iload (pc := 2091) g 1 dL_law_2091 rfl ?_
    refine j_iconst (v := 2) (pc := 2093) g dL_law_2093 (by decide) ?_
    refine j_iadd (pc := 2094) g dL_law_2094 ?_
    refine j_sld (pc := 2095) gl h2 dL_law_2095 ?_
    refine j_i2c (pc := 2096) g dL_law_2096 ?_
    refine j_callVi (pc := 2097) (na := 2) (As := [.int (((xs (i + 1).toNatClampNeg).toUInt32 % 65536).toInt32), .int (((xs (i + 2).toNatClampNeg).toUInt32 % 65536).toInt32)]) (rest := []) (q0 := 2) (ci := 10) (w' := ((o, .inl (t 4, 1, .inr (.inl fo))) :: (od, .inl (t 5, 1, .inr (.inr (.inr (.inl fd))))) :: (mC am t σm1 ++ kW aa ad t σk1 []))) g (cX9_meaning_ (rs := (o, .inl (t 4, 1, .inr (.inl fo))) :: (od, .inl (t 5, 1, .inr (.inr (.inr (.inl fd))))) :: kW aa ad t σk1 []) hm) q_i_X9_meaning q_s_X9_meaning rfl rfl rfl q_c_X9_meaning q_l_L_280 q_n_X9 (by decide +kernel) rfl ⟨Nat.le_of_ble_eq_true rfl, Nat.le_of_ble_eq_true rfl⟩ ⟨hkk, hnn⟩ (Nat.le_of_ble_eq_true rfl) (lw_pm_m aa ad am t σk1 σm _ _) (lw_pm_m aa ad am t σk1 σm1 _ _).symm dL_law_2097 ?_ rfl
    refine j_istore (L' := [(7, .int r), (6, .int 2), (5, .int i), (4, .ref od), (3, .ref o), (2, .ref (am 0)), (1, .ref (ad 0)), (0, .ref b)]) (pc := 2100) g dL_law_2100 (Nat.le_of_ble_eq_true rfl) rfl ?_
    refine j_aload_n (pc := 2102) g 5 dL_law_2102 rfl ?_
    refine j_callVi (pc := 2103) (na := 0) (As := []) (rest := []) (q0 := 2) (ci := 10) (w' := ((o, .inl (t 4, 1, .inr (.inl fo))) :: (od, .inl (t 5, 1, .inr (.inr (.inr (.inl fd))))) :: (mC am t σm1 ++ kW aa ad t σk1 []))) g (cX9_thrown_ (rs := (o, .inl (t 4, 1, .inr (.inl fo))) :: (od, .inl (t 5, 1, .inr (.inr (.inr (.inl fd))))) :: kW aa ad t σk1 []) rfl) q_i_X9_thrown q_s_X9_thrown rfl rfl rfl q_c_X9_thrown q_l_L_155 q_n_X9 (by decide +kernel) rfl ⟨Nat.le_of_ble_eq_true rfl, Nat.le_of_ble_eq_true rfl⟩ ⟨hkk, hnn⟩ (Nat.le_of_ble_eq_true rfl) (lw_pm_m aa ad am t σk1 σm1 _ _) (lw_pm_m aa ad am t σk1 σm1 _ _).symm dL_law_2103 ?_ rfl
    refine j_iload (pc := 2106) g 1 dL_law_2106 rfl ?_
    refine j_icmp_eq (tgt := 2113) (pc := 2108) g dL_law_2108 (by decide) (fun _ => ?_) (fun h9 => absurd h0 h9)
    refine j_iload (pc := 2113) g 1 dL_law_2113 rfl ?_
    refine j_if_ne (tgt := 2130) (pc := 2115) g dL_law_2115 (by decide) (fun _ => ?_) (fun h9 => absurd h9 (by decide))
    refine j_goto (tgt := 2781) (pc := 2130) g dL_law_2130 (by decide) ?_
    refine j_sub (pc := 2781) g [2, 3, 4, 5, 6, 7] rfl ?_
    exact j_widen g (by omega) (by omega) (next σk1 σm1 fo fd hR)
set_option maxRecDepth 100000 in
set_option maxHeartbeats 4000000 in
theorem lw_c37 {D : va_G} {t : Nat → ClassId} {aa : gx_AA} {l : Launch} {J : gx_J} {b Ln : Nat} {xs : Nat → Int32} (gl : gx_GL D t (gx_E0 aa) l room_1 cL_law RL 10 J b Ln xs) (hst : l.stackTraces = false) {k n : Nat} (hk : k + 1 ≤ room_1.cells) (hn : n + 6 ≤ room_1.slots) {i : Int32} (h1 : vp_in (i + 1) Ln) (h2 : vp_in (i + 2) Ln) (h3 : vp_in (i + 3) Ln) {ad am : Nat → Nat} {o od : Nat} {σk : CS} {σm : OS} {fo : Nat → Int64} {fd : Nat → UInt64} {R : CS → OS → Prop} (hag : Ag_flagsWith R σk σm (xs (i + 1).toNatClampNeg)) (next : ∀ (σk2 : CS) (σm2 : OS) (fo2 : Nat → Int64) (fd2 : Nat → UInt64), R σk2 σm2 → J (k + 1) (n + 6) ((o, .inl (t 4, 1, .inr (.inl fo2))) :: (od, .inl (t 5, 1, .inr (.inr (.inr (.inl fd2))))) :: (mC am t σm2 ++ kW aa ad t σk2 [])) 2781 [(5, .int i), (4, .ref od), (3, .ref o), (2, .ref (am 0)), (1, .ref (ad 0)), (0, .ref b)] []) : J k n ((o, .inl (t 4, 1, .inr (.inl fo))) :: (od, .inl (t 5, 1, .inr (.inr (.inr (.inl fd))))) :: (mC am t σm ++ kW aa ad t σk [])) 2133 [(5, .int i), (4, .ref od), (3, .ref o), (2, .ref (am 0)), (1, .ref (ad 0)), (0, .ref b)] [] := by
  have g := gl.g
  have hkk : k ≤ room_1.cells := by omega
  have hnn : n ≤ room_1.slots := by omega
  obtain ⟨r, σm1, hm, hag⟩ := hag
  rcases hag with ⟨hf, h0, hR⟩ | ⟨σk1, hf, h0, hR⟩
  · refine j_aload_n (pc := 2133) g 4 dL_law_2133 rfl ?_
    refine j_aload_n (pc := 2134) g 5 dL_law_2134 rfl ?_
    refine j_iload (pc := 2135) g 0 dL_law_2135 rfl ?_
    refine j_iconst (v := 1) (pc := 2137) g dL_law_2137 (by decide) ?_
    refine j_iadd (pc := 2138) g dL_law_2138 ?_
    refine j_sld (pc := 2139) gl h1 dL_law_2139 ?_
    refine j_aload_n (pc := 2140) g 2 dL_law_2140 rfl ?_
    refine j_callH (pc := 2141) (na := 3) (As := [.ref (ad 0), .int (xs (i + 1).toNatClampNeg), .ref o]) (rest := []) (r := 0) (w' := ((o, .inl (t 4, 1, .inr (.inl (vp_updL fo (0 : Int32).toNatClampNeg r.toInt64)))) :: (od, .inl (t 5, 1, .inr (.inr (.inr (.inl fd))))) :: (mC am t σm ++ kW aa ad t σk []))) g (hL_flagsWith_ok (rs := (od, .inl (t 5, 1, .inr (.inr (.inr (.inl fd))))) :: mC am t σm) hst hf) q_t_L_flagsWith q_w_L_flagsWith q_l_L_281 q_n_L (by decide) (by decide +kernel) rfl ⟨Nat.le_of_ble_eq_true rfl, Nat.le_of_ble_eq_true rfl⟩ ⟨by omega, by omega⟩ (Nat.le_of_ble_eq_true rfl) (lw_pm_h aa ad am t σk σm _ _) (lw_pm_h aa ad am t σk σm _ _).symm dL_law_2141 ?_ rfl
    have hkk : k + 0 ≤ room_1.cells := by omega
    have hnn : n + 0 ≤ room_1.slots := by omega
    refine j_istore (L' := [(6, .int 0), (5, .int i), (4, .ref od), (3, .ref o), (2, .ref (am 0)), (1, .ref (ad 0)), (0, .ref b)]) (pc := 2144) g dL_law_2144 (Nat.le_of_ble_eq_true rfl) rfl ?_
    refine j_aload_n (pc := 2146) g 4 dL_law_2146 rfl ?_
    refine j_aload_n (pc := 2147) g 6 dL_law_2147 rfl ?_
    refine j_iload (pc := 2148) g 1 dL_law_2148 rfl ?_
    refine j_iconst (v := 1) (pc := 2150) g dL_law_2150 (by decide) ?_
    refine j_iadd (pc := 2151) g dL_law_2151 ?_
    refine j_sld (pc := 2152) gl h1 dL_law_2152 ?_
    refine j_callVi (pc := 2153) (na := 1) (As := [.int (xs (i + 1).toNatClampNeg)]) (rest := []) (q0 := 2) (ci := 10) (w' := ((o, .inl (t 4, 1, .inr (.inl (vp_updL fo (0 : Int32).toNatClampNeg r.toInt64)))) :: (od, .inl (t 5, 1, .inr (.inr (.inr (.inl fd))))) :: (mC am t σm1 ++ kW aa ad t σk []))) g (cX9_flagsWith_ (rs := (o, .inl (t 4, 1, .inr (.inl (vp_updL fo (0 : Int32).toNatClampNeg r.toInt64)))) :: (od, .inl (t 5, 1, .inr (.inr (.inr (.inl fd))))) :: kW aa ad t σk []) hm) q_i_X9_flagsWith q_s_X9_flagsWith rfl rfl rfl q_c_X9_flagsWith q_l_L_283 q_n_X9 (by decide +kernel) rfl ⟨Nat.le_of_ble_eq_true rfl, Nat.le_of_ble_eq_true rfl⟩ ⟨hkk, hnn⟩ (Nat.le_of_ble_eq_true rfl) (lw_pm_m aa ad am t σk σm _ _) (lw_pm_m aa ad am t σk σm1 _ _).symm dL_law_2153 ?_ rfl
    refine j_istore (L' := [(7, .int r), (6, .int 0), (5, .int i), (4, .ref od), (3, .ref o), (2, .ref (am 0)), (1, .ref (ad 0)), (0, .ref b)]) (pc := 2156) g dL_law_2156 (Nat.le_of_ble_eq_true rfl) rfl ?_
    refine j_aload_n (pc := 2158) g 5 dL_law_2158 rfl ?_
    refine j_callVi (pc := 2159) (na := 0) (As := []) (rest := []) (q0 := 2) (ci := 10) (w' := ((o, .inl (t 4, 1, .inr (.inl (vp_updL fo (0 : Int32).toNatClampNeg r.toInt64)))) :: (od, .inl (t 5, 1, .inr (.inr (.inr (.inl fd))))) :: (mC am t σm1 ++ kW aa ad t σk []))) g (cX9_thrown_ (rs := (o, .inl (t 4, 1, .inr (.inl (vp_updL fo (0 : Int32).toNatClampNeg r.toInt64)))) :: (od, .inl (t 5, 1, .inr (.inr (.inr (.inl fd))))) :: kW aa ad t σk []) rfl) q_i_X9_thrown q_s_X9_thrown rfl rfl rfl q_c_X9_thrown q_l_L_155 q_n_X9 (by decide +kernel) rfl ⟨Nat.le_of_ble_eq_true rfl, Nat.le_of_ble_eq_true rfl⟩ ⟨hkk, hnn⟩ (Nat.le_of_ble_eq_true rfl) (lw_pm_m aa ad am t σk σm1 _ _) (lw_pm_m aa ad am t σk σm1 _ _).symm dL_law_2159 ?_ rfl
    refine j_iload (pc := 2162) g 1 dL_law_2162 rfl ?_
    refine j_icmp_eq (tgt := 2169) (pc := 2164) g dL_law_2164 (by decide) (fun _ => ?_) (fun h9 => absurd h0 h9)
    refine j_iload (pc := 2169) g 1 dL_law_2169 rfl ?_
    refine j_if_ne (tgt := 2186) (pc := 2171) g dL_law_2171 (by decide) (fun h9 => absurd rfl h9) (fun _ => ?_)
    refine j_aload_n (pc := 2174) g 4 dL_law_2174 rfl ?_
    refine j_iconst (v := 0) (pc := 2175) g dL_law_2175 (by decide) ?_
    refine j_lald (pc := 2176) g 0 rfl (show gx_in (0 : Int32) 1 by decide) dL_law_2176 ?_
    refine j_iload (pc := 2177) g 0 dL_law_2177 rfl ?_
    refine j_i2l (pc := 2179) g dL_law_2179 ?_
    refine j_lcmp (pc := 2180) g dL_law_2180 ?_
    refine j_if_eq (tgt := 2186) (pc := 2181) g dL_law_2181 (by decide) (fun _ => ?_) (fun h9 => absurd (lw_cmp0 _) h9)
    refine j_goto (tgt := 2781) (pc := 2186) g dL_law_2186 (by decide) ?_
    refine j_sub (pc := 2781) g [2, 3, 4, 5, 6, 7] rfl ?_
    exact j_widen g (by omega) (by omega) (next σk σm1 (vp_updL fo (0 : Int32).toNatClampNeg r.toInt64) fd hR)
  · refine j_aload_n (pc := 2133) g 4 dL_law_2133 rfl ?_
    refine j_aload_n (pc := 2134) g 5 dL_law_2134 rfl ?_
    refine j_iload (pc := 2135) g 0 dL_law_2135 rfl ?_
    refine j_iconst (v := 1) (pc := 2137) g dL_law_2137 (by decide) ?_
    refine j_iadd (pc := 2138) g dL_law_2138 ?_
    refine j_sld (pc := 2139) gl h1 dL_law_2139 ?_
    refine j_aload_n (pc := 2140) g 2 dL_law_2140 rfl ?_
    refine j_callH (pc := 2141) (na := 3) (As := [.ref (ad 0), .int (xs (i + 1).toNatClampNeg), .ref o]) (rest := []) (r := 1) (w' := ((o, .inl (t 4, 1, .inr (.inl fo))) :: (od, .inl (t 5, 1, .inr (.inr (.inr (.inl fd))))) :: (mC am t σm ++ kW aa ad t σk1 []))) g (hL_flagsWith_x1 (rs := (od, .inl (t 5, 1, .inr (.inr (.inr (.inl fd))))) :: mC am t σm) hst hf) q_t_L_flagsWith q_w_L_flagsWith q_l_L_281 q_n_L (by decide) (by decide +kernel) rfl ⟨Nat.le_of_ble_eq_true rfl, Nat.le_of_ble_eq_true rfl⟩ ⟨by omega, by omega⟩ (Nat.le_of_ble_eq_true rfl) (lw_pm_h aa ad am t σk σm _ _) (lw_pm_h aa ad am t σk1 σm _ _).symm dL_law_2141 ?_ rfl
    have hkk : k + 1 ≤ room_1.cells := by omega
    have hnn : n + 6 ≤ room_1.slots := by omega
    refine j_istore (L' := [(6, .int 1), (5, .int i), (4, .ref od), (3, .ref o), (2, .ref (am 0)), (1, .ref (ad 0)), (0, .ref b)]) (pc := 2144) g dL_law_2144 (Nat.le_of_ble_eq_true rfl) rfl ?_
    refine j_aload_n (pc := 2146) g 4 dL_law_2146 rfl ?_
    refine j_aload_n (pc := 2147) g 6 dL_law_2147 rfl ?_
    refine j_iload (pc := 2148) g 1 dL_law_2148 rfl ?_
    refine j_iconst (v := 1) (pc := 2150) g dL_law_2150 (by decide) ?_
    refine j_iadd (pc := 2151) g dL_law_2151 ?_
    refine j_sld (pc := 2152) gl h1 dL_law_2152 ?_
    refine j_callVi (pc := 2153) (na := 1) (As := [.int (xs (i + 1).toNatClampNeg)]) (rest := []) (q0 := 2) (ci := 10) (w' := ((o, .inl (t 4, 1, .inr (.inl fo))) :: (od, .inl (t 5, 1, .inr (.inr (.inr (.inl fd))))) :: (mC am t σm1 ++ kW aa ad t σk1 []))) g (cX9_flagsWith_ (rs := (o, .inl (t 4, 1, .inr (.inl fo))) :: (od, .inl (t 5, 1, .inr (.inr (.inr (.inl fd))))) :: kW aa ad t σk1 []) hm) q_i_X9_flagsWith q_s_X9_flagsWith rfl rfl rfl q_c_X9_flagsWith q_l_L_283 q_n_X9 (by decide +kernel) rfl ⟨Nat.le_of_ble_eq_true rfl, Nat.le_of_ble_eq_true rfl⟩ ⟨hkk, hnn⟩ (Nat.le_of_ble_eq_true rfl) (lw_pm_m aa ad am t σk1 σm _ _) (lw_pm_m aa ad am t σk1 σm1 _ _).symm dL_law_2153 ?_ rfl
    refine j_istore (L' := [(7, .int r), (6, .int 1), (5, .int i), (4, .ref od), (3, .ref o), (2, .ref (am 0)), (1, .ref (ad 0)), (0, .ref b)]) (pc := 2156) g dL_law_2156 (Nat.le_of_ble_eq_true rfl) rfl ?_
    refine j_aload_n (pc := 2158) g 5 dL_law_2158 rfl ?_
    refine j_callVi (pc := 2159) (na := 0) (As := []) (rest := []) (q0 := 2) (ci := 10) (w' := ((o, .inl (t 4, 1, .inr (.inl fo))) :: (od, .inl (t 5, 1, .inr (.inr (.inr (.inl fd))))) :: (mC am t σm1 ++ kW aa ad t σk1 []))) g (cX9_thrown_ (rs := (o, .inl (t 4, 1, .inr (.inl fo))) :: (od, .inl (t 5, 1, .inr (.inr (.inr (.inl fd))))) :: kW aa ad t σk1 []) rfl) q_i_X9_thrown q_s_X9_thrown rfl rfl rfl q_c_X9_thrown q_l_L_155 q_n_X9 (by decide +kernel) rfl ⟨Nat.le_of_ble_eq_true rfl, Nat.le_of_ble_eq_true rfl⟩ ⟨hkk, hnn⟩ (Nat.le_of_ble_eq_true rfl) (lw_pm_m aa ad am t σk1 σm1 _ _) (lw_pm_m aa ad am t σk1 σm1 _ _).symm dL_law_2159 ?_ rfl
    refine j_iload (pc := 2162) g 1 dL_law_2162 rfl ?_
    refine j_icmp_eq (tgt := 2169) (pc := 2164) g dL_law_2164 (by decide) (fun _ => ?_) (fun h9 => absurd h0 h9)
    refine j_iload (pc := 2169) g 1 dL_law_2169 rfl ?_
    refine j_if_ne (tgt := 2186) (pc := 2171) g dL_law_2171 (by decide) (fun _ => ?_) (fun h9 => absurd h9 (by decide))
    refine j_goto (tgt := 2781) (pc := 2186) g dL_law_2186 (by decide) ?_
    refine j_sub (pc := 2781) g [2, 3, 4, 5, 6, 7] rfl ?_
    exact j_widen g (by omega) (by omega) (next σk1 σm1 fo fd hR)
set_option maxRecDepth 100000 in
set_option maxHeartbeats 4000000 in
theorem lw_c38 {D : va_G} {t : Nat → ClassId} {aa : gx_AA} {l : Launch} {J : gx_J} {b Ln : Nat} {xs : Nat → Int32} (gl : gx_GL D t (gx_E0 aa) l room_1 cL_law RL 10 J b Ln xs) (hst : l.stackTraces = false) {k n : Nat} (hk : k + 1 ≤ room_1.cells) (hn : n + 6 ≤ room_1.slots) {i : Int32} (h1 : vp_in (i + 1) Ln) (h2 : vp_in (i + 2) Ln) (h3 : vp_in (i + 3) Ln) {ad am : Nat → Nat} {o od : Nat} {σk : CS} {σm : OS} {fo : Nat → Int64} {fd : Nat → UInt64} {R : CS → OS → Prop} (hag : Ag_officerByRank R σk σm (xs (i + 1).toNatClampNeg)) (next : ∀ (σk2 : CS) (σm2 : OS) (fo2 : Nat → Int64) (fd2 : Nat → UInt64), R σk2 σm2 → J (k + 1) (n + 6) ((o, .inl (t 4, 1, .inr (.inl fo2))) :: (od, .inl (t 5, 1, .inr (.inr (.inr (.inl fd2))))) :: (mC am t σm2 ++ kW aa ad t σk2 [])) 2781 [(5, .int i), (4, .ref od), (3, .ref o), (2, .ref (am 0)), (1, .ref (ad 0)), (0, .ref b)] []) : J k n ((o, .inl (t 4, 1, .inr (.inl fo))) :: (od, .inl (t 5, 1, .inr (.inr (.inr (.inl fd))))) :: (mC am t σm ++ kW aa ad t σk [])) 2189 [(5, .int i), (4, .ref od), (3, .ref o), (2, .ref (am 0)), (1, .ref (ad 0)), (0, .ref b)] [] := by
  have g := gl.g
  have hkk : k ≤ room_1.cells := by omega
  have hnn : n ≤ room_1.slots := by omega
  obtain ⟨r, σm1, hm, hag⟩ := hag
  rcases hag with ⟨hf, h0, hR⟩ | ⟨σk1, hf, h0, hR⟩
  · refine j_aload_n (pc := 2189) g 4 dL_law_2189 rfl ?_
    refine j_aload_n (pc := 2190) g 5 dL_law_2190 rfl ?_
    refine j_iload (pc := 2191) g 0 dL_law_2191 rfl ?_
    refine j_iconst (v := 1) (pc := 2193) g dL_law_2193 (by decide) ?_
    refine j_iadd (pc := 2194) g dL_law_2194 ?_
    refine j_sld (pc := 2195) gl h1 dL_law_2195 ?_
    refine j_aload_n (pc := 2196) g 2 dL_law_2196 rfl ?_
    refine j_callH (pc := 2197) (na := 3) (As := [.ref (ad 0), .int (xs (i + 1).toNatClampNeg), .ref o]) (rest := []) (r := 0) (w' := ((o, .inl (t 4, 1, .inr (.inl (vp_updL fo (0 : Int32).toNatClampNeg r.toInt64)))) :: (od, .inl (t 5, 1, .inr (.inr (.inr (.inl fd))))) :: (mC am t σm ++ kW aa ad t σk []))) g (hL_officerByRank_ok (rs := (od, .inl (t 5, 1, .inr (.inr (.inr (.inl fd))))) :: mC am t σm) hst hf) q_t_L_officerByRank q_w_L_officerByRank q_l_L_284 q_n_L (by decide) (by decide +kernel) rfl ⟨Nat.le_of_ble_eq_true rfl, Nat.le_of_ble_eq_true rfl⟩ ⟨by omega, by omega⟩ (Nat.le_of_ble_eq_true rfl) (lw_pm_h aa ad am t σk σm _ _) (lw_pm_h aa ad am t σk σm _ _).symm dL_law_2197 ?_ rfl
    have hkk : k + 0 ≤ room_1.cells := by omega
    have hnn : n + 0 ≤ room_1.slots := by omega
    refine j_istore (L' := [(6, .int 0), (5, .int i), (4, .ref od), (3, .ref o), (2, .ref (am 0)), (1, .ref (ad 0)), (0, .ref b)]) (pc := 2200) g dL_law_2200 (Nat.le_of_ble_eq_true rfl) rfl ?_
    refine j_aload_n (pc := 2202) g 4 dL_law_2202 rfl ?_
    refine j_aload_n (pc := 2203) g 6 dL_law_2203 rfl ?_
    refine j_iload (pc := 2204) g 1 dL_law_2204 rfl ?_
    refine j_iconst (v := 1) (pc := 2206) g dL_law_2206 (by decide) ?_
    refine j_iadd (pc := 2207) g dL_law_2207 ?_
    refine j_sld (pc := 2208) gl h1 dL_law_2208 ?_
    refine j_callVi (pc := 2209) (na := 1) (As := [.int (xs (i + 1).toNatClampNeg)]) (rest := []) (q0 := 2) (ci := 10) (w' := ((o, .inl (t 4, 1, .inr (.inl (vp_updL fo (0 : Int32).toNatClampNeg r.toInt64)))) :: (od, .inl (t 5, 1, .inr (.inr (.inr (.inl fd))))) :: (mC am t σm1 ++ kW aa ad t σk []))) g (cX9_officerByRank_ (rs := (o, .inl (t 4, 1, .inr (.inl (vp_updL fo (0 : Int32).toNatClampNeg r.toInt64)))) :: (od, .inl (t 5, 1, .inr (.inr (.inr (.inl fd))))) :: kW aa ad t σk []) hm) q_i_X9_officerByRank q_s_X9_officerByRank rfl rfl rfl q_c_X9_officerByRank q_l_L_286 q_n_X9 (by decide +kernel) rfl ⟨Nat.le_of_ble_eq_true rfl, Nat.le_of_ble_eq_true rfl⟩ ⟨hkk, hnn⟩ (Nat.le_of_ble_eq_true rfl) (lw_pm_m aa ad am t σk σm _ _) (lw_pm_m aa ad am t σk σm1 _ _).symm dL_law_2209 ?_ rfl
    refine j_istore (L' := [(7, .int r), (6, .int 0), (5, .int i), (4, .ref od), (3, .ref o), (2, .ref (am 0)), (1, .ref (ad 0)), (0, .ref b)]) (pc := 2212) g dL_law_2212 (Nat.le_of_ble_eq_true rfl) rfl ?_
    refine j_aload_n (pc := 2214) g 5 dL_law_2214 rfl ?_
    refine j_callVi (pc := 2215) (na := 0) (As := []) (rest := []) (q0 := 2) (ci := 10) (w' := ((o, .inl (t 4, 1, .inr (.inl (vp_updL fo (0 : Int32).toNatClampNeg r.toInt64)))) :: (od, .inl (t 5, 1, .inr (.inr (.inr (.inl fd))))) :: (mC am t σm1 ++ kW aa ad t σk []))) g (cX9_thrown_ (rs := (o, .inl (t 4, 1, .inr (.inl (vp_updL fo (0 : Int32).toNatClampNeg r.toInt64)))) :: (od, .inl (t 5, 1, .inr (.inr (.inr (.inl fd))))) :: kW aa ad t σk []) rfl) q_i_X9_thrown q_s_X9_thrown rfl rfl rfl q_c_X9_thrown q_l_L_155 q_n_X9 (by decide +kernel) rfl ⟨Nat.le_of_ble_eq_true rfl, Nat.le_of_ble_eq_true rfl⟩ ⟨hkk, hnn⟩ (Nat.le_of_ble_eq_true rfl) (lw_pm_m aa ad am t σk σm1 _ _) (lw_pm_m aa ad am t σk σm1 _ _).symm dL_law_2215 ?_ rfl
    refine j_iload (pc := 2218) g 1 dL_law_2218 rfl ?_
    refine j_icmp_eq (tgt := 2225) (pc := 2220) g dL_law_2220 (by decide) (fun _ => ?_) (fun h9 => absurd h0 h9)
    refine j_iload (pc := 2225) g 1 dL_law_2225 rfl ?_
    refine j_if_ne (tgt := 2242) (pc := 2227) g dL_law_2227 (by decide) (fun h9 => absurd rfl h9) (fun _ => ?_)
    refine j_aload_n (pc := 2230) g 4 dL_law_2230 rfl ?_
    refine j_iconst (v := 0) (pc := 2231) g dL_law_2231 (by decide) ?_
    refine j_lald (pc := 2232) g 0 rfl (show gx_in (0 : Int32) 1 by decide) dL_law_2232 ?_
    refine j_iload (pc := 2233) g 0 dL_law_2233 rfl ?_
    refine j_i2l (pc := 2235) g dL_law_2235 ?_
    refine j_lcmp (pc := 2236) g dL_law_2236 ?_
    refine j_if_eq (tgt := 2242) (pc := 2237) g dL_law_2237 (by decide) (fun _ => ?_) (fun h9 => absurd (lw_cmp0 _) h9)
    refine j_goto (tgt := 2781) (pc := 2242) g dL_law_2242 (by decide) ?_
    refine j_sub (pc := 2781) g [2, 3, 4, 5, 6, 7] rfl ?_
    exact j_widen g (by omega) (by omega) (next σk σm1 (vp_updL fo (0 : Int32).toNatClampNeg r.toInt64) fd hR)
  · refine j_aload_n (pc := 2189) g 4 dL_law_2189 rfl ?_
    refine j_aload_n (pc := 2190) g 5 dL_law_2190 rfl ?_
    refine j_iload (pc := 2191) g 0 dL_law_2191 rfl ?_
    refine j_iconst (v := 1) (pc := 2193) g dL_law_2193 (by decide) ?_
    refine j_iadd (pc := 2194) g dL_law_2194 ?_
    refine j_sld (pc := 2195) gl h1 dL_law_2195 ?_
    refine j_aload_n (pc := 2196) g 2 dL_law_2196 rfl ?_
    refine j_callH (pc := 2197) (na := 3) (As := [.ref (ad 0), .int (xs (i + 1).toNatClampNeg), .ref o]) (rest := []) (r := 1) (w' := ((o, .inl (t 4, 1, .inr (.inl fo))) :: (od, .inl (t 5, 1, .inr (.inr (.inr (.inl fd))))) :: (mC am t σm ++ kW aa ad t σk1 []))) g (hL_officerByRank_x1 (rs := (od, .inl (t 5, 1, .inr (.inr (.inr (.inl fd))))) :: mC am t σm) hst hf) q_t_L_officerByRank q_w_L_officerByRank q_l_L_284 q_n_L (by decide) (by decide +kernel) rfl ⟨Nat.le_of_ble_eq_true rfl, Nat.le_of_ble_eq_true rfl⟩ ⟨by omega, by omega⟩ (Nat.le_of_ble_eq_true rfl) (lw_pm_h aa ad am t σk σm _ _) (lw_pm_h aa ad am t σk1 σm _ _).symm dL_law_2197 ?_ rfl
    have hkk : k + 1 ≤ room_1.cells := by omega
    have hnn : n + 6 ≤ room_1.slots := by omega
    refine j_istore (L' := [(6, .int 1), (5, .int i), (4, .ref od), (3, .ref o), (2, .ref (am 0)), (1, .ref (ad 0)), (0, .ref b)]) (pc := 2200) g dL_law_2200 (Nat.le_of_ble_eq_true rfl) rfl ?_
    refine j_aload_n (pc := 2202) g 4 dL_law_2202 rfl ?_
    refine j_aload_n (pc := 2203) g 6 dL_law_2203 rfl ?_
    refine j_iload (pc := 2204) g 1 dL_law_2204 rfl ?_
    refine j_iconst (v := 1) (pc := 2206) g dL_law_2206 (by decide) ?_
    refine j_iadd (pc := 2207) g dL_law_2207 ?_
    refine j_sld (pc := 2208) gl h1 dL_law_2208 ?_
    refine j_callVi (pc := 2209) (na := 1) (As := [.int (xs (i + 1).toNatClampNeg)]) (rest := []) (q0 := 2) (ci := 10) (w' := ((o, .inl (t 4, 1, .inr (.inl fo))) :: (od, .inl (t 5, 1, .inr (.inr (.inr (.inl fd))))) :: (mC am t σm1 ++ kW aa ad t σk1 []))) g (cX9_officerByRank_ (rs := (o, .inl (t 4, 1, .inr (.inl fo))) :: (od, .inl (t 5, 1, .inr (.inr (.inr (.inl fd))))) :: kW aa ad t σk1 []) hm) q_i_X9_officerByRank q_s_X9_officerByRank rfl rfl rfl q_c_X9_officerByRank q_l_L_286 q_n_X9 (by decide +kernel) rfl ⟨Nat.le_of_ble_eq_true rfl, Nat.le_of_ble_eq_true rfl⟩ ⟨hkk, hnn⟩ (Nat.le_of_ble_eq_true rfl) (lw_pm_m aa ad am t σk1 σm _ _) (lw_pm_m aa ad am t σk1 σm1 _ _).symm dL_law_2209 ?_ rfl
    refine j_istore (L' := [(7, .int r), (6, .int 1), (5, .int i), (4, .ref od), (3, .ref o), (2, .ref (am 0)), (1, .ref (ad 0)), (0, .ref b)]) (pc := 2212) g dL_law_2212 (Nat.le_of_ble_eq_true rfl) rfl ?_
    refine j_aload_n (pc := 2214) g 5 dL_law_2214 rfl ?_
    refine j_callVi (pc := 2215) (na := 0) (As := []) (rest := []) (q0 := 2) (ci := 10) (w' := ((o, .inl (t 4, 1, .inr (.inl fo))) :: (od, .inl (t 5, 1, .inr (.inr (.inr (.inl fd))))) :: (mC am t σm1 ++ kW aa ad t σk1 []))) g (cX9_thrown_ (rs := (o, .inl (t 4, 1, .inr (.inl fo))) :: (od, .inl (t 5, 1, .inr (.inr (.inr (.inl fd))))) :: kW aa ad t σk1 []) rfl) q_i_X9_thrown q_s_X9_thrown rfl rfl rfl q_c_X9_thrown q_l_L_155 q_n_X9 (by decide +kernel) rfl ⟨Nat.le_of_ble_eq_true rfl, Nat.le_of_ble_eq_true rfl⟩ ⟨hkk, hnn⟩ (Nat.le_of_ble_eq_true rfl) (lw_pm_m aa ad am t σk1 σm1 _ _) (lw_pm_m aa ad am t σk1 σm1 _ _).symm dL_law_2215 ?_ rfl
    refine j_iload (pc := 2218) g 1 dL_law_2218 rfl ?_
    refine j_icmp_eq (tgt := 2225) (pc := 2220) g dL_law_2220 (by decide) (fun _ => ?_) (fun h9 => absurd h0 h9)
    refine j_iload (pc := 2225) g 1 dL_law_2225 rfl ?_
    refine j_if_ne (tgt := 2242) (pc := 2227) g dL_law_2227 (by decide) (fun _ => ?_) (fun h9 => absurd h9 (by decide))
    refine j_goto (tgt := 2781) (pc := 2242) g dL_law_2242 (by decide) ?_
    refine j_sub (pc := 2781) g [2, 3, 4, 5, 6, 7] rfl ?_
    exact j_widen g (by omega) (by omega) (next σk1 σm1 fo fd hR)
set_option maxRecDepth 100000 in
set_option maxHeartbeats 4000000 in
theorem lw_c39 {D : va_G} {t : Nat → ClassId} {aa : gx_AA} {l : Launch} {J : gx_J} {b Ln : Nat} {xs : Nat → Int32} (gl : gx_GL D t (gx_E0 aa) l room_1 cL_law RL 10 J b Ln xs) (hst : l.stackTraces = false) {k n : Nat} (hk : k + 1 ≤ room_1.cells) (hn : n + 6 ≤ room_1.slots) {i : Int32} (h1 : vp_in (i + 1) Ln) (h2 : vp_in (i + 2) Ln) (h3 : vp_in (i + 3) Ln) {ad am : Nat → Nat} {o od : Nat} {σk : CS} {σm : OS} {fo : Nat → Int64} {fd : Nat → UInt64} {R : CS → OS → Prop} (hag : Ag_meanLoyalty R σk σm) (next : ∀ (σk2 : CS) (σm2 : OS) (fo2 : Nat → Int64) (fd2 : Nat → UInt64), R σk2 σm2 → J (k + 1) (n + 6) ((o, .inl (t 4, 1, .inr (.inl fo2))) :: (od, .inl (t 5, 1, .inr (.inr (.inr (.inl fd2))))) :: (mC am t σm2 ++ kW aa ad t σk2 [])) 2781 [(5, .int i), (4, .ref od), (3, .ref o), (2, .ref (am 0)), (1, .ref (ad 0)), (0, .ref b)] []) : J k n ((o, .inl (t 4, 1, .inr (.inl fo))) :: (od, .inl (t 5, 1, .inr (.inr (.inr (.inl fd))))) :: (mC am t σm ++ kW aa ad t σk [])) 2245 [(5, .int i), (4, .ref od), (3, .ref o), (2, .ref (am 0)), (1, .ref (ad 0)), (0, .ref b)] [] := by
  have g := gl.g
  have hkk : k ≤ room_1.cells := by omega
  have hnn : n ≤ room_1.slots := by omega
  obtain ⟨r, σm1, hm, hf, hR⟩ := hag
  refine j_aload_n (pc := 2245) g 4 dL_law_2245 rfl ?_
  refine j_callVa (pc := 2246) (na := 0) (As := []) (rest := []) (q0 := 10) (ci := 9) (w' := ((o, .inl (t 4, 1, .inr (.inl fo))) :: (od, .inl (t 5, 1, .inr (.inr (.inr (.inl fd))))) :: (mC am t σm ++ kW aa ad t σk []))) g (cX8_meanLoyalty_ (rs := (o, .inl (t 4, 1, .inr (.inl fo))) :: (od, .inl (t 5, 1, .inr (.inr (.inr (.inl fd))))) :: mC am t σm) hf) q_i_X8_meanLoyalty q_s_X8_meanLoyalty rfl rfl (lw_at9 aa ad am t σk σm _ _) q_c_X8_meanLoyalty q_l_L_287 q_n_X8 (by decide +kernel) rfl ⟨Nat.le_of_ble_eq_true rfl, Nat.le_of_ble_eq_true rfl⟩ ⟨hkk, hnn⟩ (Nat.le_of_ble_eq_true rfl) (lw_pm_k aa ad am t σk σm _ _) (lw_pm_k aa ad am t σk σm _ _).symm dL_law_2246 ?_ rfl
  refine j_dstore (L' := [(6, .double r), (5, .int i), (4, .ref od), (3, .ref o), (2, .ref (am 0)), (1, .ref (ad 0)), (0, .ref b)]) (pc := 2249) g dL_law_2249 (Nat.le_of_ble_eq_true rfl) rfl ?_
  refine j_aload_n (pc := 2251) g 4 dL_law_2251 rfl ?_
  refine j_callVa (pc := 2252) (na := 0) (As := []) (rest := []) (q0 := 2) (ci := 10) (w' := ((o, .inl (t 4, 1, .inr (.inl fo))) :: (od, .inl (t 5, 1, .inr (.inr (.inr (.inl fd))))) :: (mC am t σm1 ++ kW aa ad t σk []))) g (cX9_meanLoyalty_ (rs := (o, .inl (t 4, 1, .inr (.inl fo))) :: (od, .inl (t 5, 1, .inr (.inr (.inr (.inl fd))))) :: kW aa ad t σk []) hm) q_i_X9_meanLoyalty q_s_X9_meanLoyalty rfl rfl rfl q_c_X9_meanLoyalty q_l_L_291 q_n_X9 (by decide +kernel) rfl ⟨Nat.le_of_ble_eq_true rfl, Nat.le_of_ble_eq_true rfl⟩ ⟨hkk, hnn⟩ (Nat.le_of_ble_eq_true rfl) (lw_pm_m aa ad am t σk σm _ _) (lw_pm_m aa ad am t σk σm1 _ _).symm dL_law_2252 ?_ rfl
  refine j_dstore (L' := [(8, .double r), (6, .double r), (5, .int i), (4, .ref od), (3, .ref o), (2, .ref (am 0)), (1, .ref (ad 0)), (0, .ref b)]) (pc := 2255) g dL_law_2255 (Nat.le_of_ble_eq_true rfl) rfl ?_
  refine j_dload (pc := 2257) g 1 dL_law_2257 rfl ?_
  refine j_dload (pc := 2259) g 0 dL_law_2259 rfl ?_
  refine j_dcmp (pc := 2261) g dL_law_2261 ?_
  by_cases c9 : Op.cmpValue (FP.dcmp r r) .l = 0
  · refine j_if_eq (tgt := 2283) (pc := 2262) g dL_law_2262 (by decide) (fun _ => ?_) (fun h9 => absurd c9 h9)
    refine j_goto (tgt := 2781) (pc := 2283) g dL_law_2283 (by decide) ?_
    refine j_sub (pc := 2781) g [2, 3, 4, 5, 6, 7] rfl ?_
    exact j_widen g (by omega) (by omega) (next σk σm1 fo fd hR)
  · refine j_if_eq (tgt := 2283) (pc := 2262) g dL_law_2262 (by decide) (fun h9 => absurd h9 c9) (fun _ => ?_)
    refine j_dload (pc := 2265) g 1 dL_law_2265 rfl ?_
    refine j_dload (pc := 2267) g 1 dL_law_2267 rfl ?_
    refine j_dcmp (pc := 2269) g dL_law_2269 ?_
    refine j_if_eq (tgt := 2281) (pc := 2270) g dL_law_2270 (by decide) (fun h9 => absurd h9 c9) (fun _ => ?_)
    refine j_dload (pc := 2273) g 0 dL_law_2273 rfl ?_
    refine j_dload (pc := 2275) g 0 dL_law_2275 rfl ?_
    refine j_dcmp (pc := 2277) g dL_law_2277 ?_
    refine j_if_ne (tgt := 2283) (pc := 2278) g dL_law_2278 (by decide) (fun _ => ?_) (fun h9 => absurd h9 c9)
    refine j_goto (tgt := 2781) (pc := 2283) g dL_law_2283 (by decide) ?_
    refine j_sub (pc := 2781) g [2, 3, 4, 5, 6, 7] rfl ?_
    exact j_widen g (by omega) (by omega) (next σk σm1 fo fd hR)
