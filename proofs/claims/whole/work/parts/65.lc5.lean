set_option maxRecDepth 100000 in
set_option maxHeartbeats 4000000 in
theorem lw_c40 {D : va_G} {t : Nat → ClassId} {aa : gx_AA} {l : Launch} {J : gx_J} {b Ln : Nat} {xs : Nat → Int32} (gl : gx_GL D t (gx_E0 aa) l room_1 cL_law RL 10 J b Ln xs) (hst : l.stackTraces = false) {k n : Nat} (hk : k + 1 ≤ room_1.cells) (hn : n + 6 ≤ room_1.slots) {i : Int32} (h1 : vp_in (i + 1) Ln) (h2 : vp_in (i + 2) Ln) (h3 : vp_in (i + 3) Ln) {ad am : Nat → Nat} {o od : Nat} {σk : CS} {σm : OS} {fo : Nat → Int64} {fd : Nat → UInt64} {R : CS → OS → Prop} (hag : Ag_executedShare R σk σm) (next : ∀ (σk2 : CS) (σm2 : OS) (fo2 : Nat → Int64) (fd2 : Nat → UInt64), R σk2 σm2 → J (k + 1) (n + 6) ((o, .inl (t 4, 1, .inr (.inl fo2))) :: (od, .inl (t 5, 1, .inr (.inr (.inr (.inl fd2))))) :: (mC am t σm2 ++ kW aa ad t σk2 [])) 2781 [(5, .int i), (4, .ref od), (3, .ref o), (2, .ref (am 0)), (1, .ref (ad 0)), (0, .ref b)] []) : J k n ((o, .inl (t 4, 1, .inr (.inl fo))) :: (od, .inl (t 5, 1, .inr (.inr (.inr (.inl fd))))) :: (mC am t σm ++ kW aa ad t σk [])) 2286 [(5, .int i), (4, .ref od), (3, .ref o), (2, .ref (am 0)), (1, .ref (ad 0)), (0, .ref b)] [] := by
  have g := gl.g
  have hkk : k ≤ room_1.cells := by omega
  have hnn : n ≤ room_1.slots := by omega
  obtain ⟨r, σm1, hm, hag⟩ := hag
  rcases hag with ⟨hf, h0, hn1, hc1, hR⟩ | ⟨σk1, hf, h0, hR⟩
  · refine j_aload_n (pc := 2286) g 4 dL_law_2286 rfl ?_
    refine j_aload (pc := 2287) g 1 dL_law_2287 rfl ?_
    refine j_callH (pc := 2289) (na := 2) (As := [.ref (ad 0), .ref od]) (rest := []) (r := 0) (w' := ((o, .inl (t 4, 1, .inr (.inl fo))) :: (od, .inl (t 5, 1, .inr (.inr (.inr (.inl (vf_upd fd (0 : Int32).toNatClampNeg (FP.f2d r))))))) :: (mC am t σm ++ kW aa ad t σk []))) g (hL_executedShare_ok (rs := (o, .inl (t 4, 1, .inr (.inl fo))) :: mC am t σm) hst hf hn1) q_t_L_executedShare q_w_L_executedShare q_l_L_292 q_n_L (by decide) (by decide +kernel) rfl ⟨Nat.le_of_ble_eq_true rfl, Nat.le_of_ble_eq_true rfl⟩ ⟨by omega, by omega⟩ (Nat.le_of_ble_eq_true rfl) (lw_pm_d aa ad am t σk σm _ _) (lw_pm_d aa ad am t σk σm _ _).symm dL_law_2289 ?_ rfl
    have hkk : k + 0 ≤ room_1.cells := by omega
    have hnn : n + 0 ≤ room_1.slots := by omega
    refine j_istore (L' := [(6, .int 0), (5, .int i), (4, .ref od), (3, .ref o), (2, .ref (am 0)), (1, .ref (ad 0)), (0, .ref b)]) (pc := 2292) g dL_law_2292 (Nat.le_of_ble_eq_true rfl) rfl ?_
    refine j_aload_n (pc := 2294) g 4 dL_law_2294 rfl ?_
    refine j_callVa (pc := 2295) (na := 0) (As := []) (rest := []) (q0 := 2) (ci := 10) (w' := ((o, .inl (t 4, 1, .inr (.inl fo))) :: (od, .inl (t 5, 1, .inr (.inr (.inr (.inl (vf_upd fd (0 : Int32).toNatClampNeg (FP.f2d r))))))) :: (mC am t σm1 ++ kW aa ad t σk []))) g (cX9_executedShare_ (rs := (o, .inl (t 4, 1, .inr (.inl fo))) :: (od, .inl (t 5, 1, .inr (.inr (.inr (.inl (vf_upd fd (0 : Int32).toNatClampNeg (FP.f2d r))))))) :: kW aa ad t σk []) hm) q_i_X9_executedShare q_s_X9_executedShare rfl rfl rfl q_c_X9_executedShare q_l_L_295 q_n_X9 (by decide +kernel) rfl ⟨Nat.le_of_ble_eq_true rfl, Nat.le_of_ble_eq_true rfl⟩ ⟨hkk, hnn⟩ (Nat.le_of_ble_eq_true rfl) (lw_pm_m aa ad am t σk σm _ _) (lw_pm_m aa ad am t σk σm1 _ _).symm dL_law_2295 ?_ rfl
    refine j_fstore (L' := [(7, .float r), (6, .int 0), (5, .int i), (4, .ref od), (3, .ref o), (2, .ref (am 0)), (1, .ref (ad 0)), (0, .ref b)]) (pc := 2298) g dL_law_2298 (Nat.le_of_ble_eq_true rfl) rfl ?_
    refine j_aload_n (pc := 2300) g 5 dL_law_2300 rfl ?_
    refine j_callVi (pc := 2301) (na := 0) (As := []) (rest := []) (q0 := 2) (ci := 10) (w' := ((o, .inl (t 4, 1, .inr (.inl fo))) :: (od, .inl (t 5, 1, .inr (.inr (.inr (.inl (vf_upd fd (0 : Int32).toNatClampNeg (FP.f2d r))))))) :: (mC am t σm1 ++ kW aa ad t σk []))) g (cX9_thrown_ (rs := (o, .inl (t 4, 1, .inr (.inl fo))) :: (od, .inl (t 5, 1, .inr (.inr (.inr (.inl (vf_upd fd (0 : Int32).toNatClampNeg (FP.f2d r))))))) :: kW aa ad t σk []) rfl) q_i_X9_thrown q_s_X9_thrown rfl rfl rfl q_c_X9_thrown q_l_L_155 q_n_X9 (by decide +kernel) rfl ⟨Nat.le_of_ble_eq_true rfl, Nat.le_of_ble_eq_true rfl⟩ ⟨hkk, hnn⟩ (Nat.le_of_ble_eq_true rfl) (lw_pm_m aa ad am t σk σm1 _ _) (lw_pm_m aa ad am t σk σm1 _ _).symm dL_law_2301 ?_ rfl
    refine j_iload (pc := 2304) g 1 dL_law_2304 rfl ?_
    refine j_icmp_eq (tgt := 2311) (pc := 2306) g dL_law_2306 (by decide) (fun _ => ?_) (fun h9 => absurd h0 h9)
    refine j_iload (pc := 2311) g 1 dL_law_2311 rfl ?_
    refine j_if_ne (tgt := 2349) (pc := 2313) g dL_law_2313 (by decide) (fun h9 => absurd rfl h9) (fun _ => ?_)
    refine j_aload (pc := 2316) g 3 dL_law_2316 rfl ?_
    refine j_iconst (v := 0) (pc := 2318) g dL_law_2318 (by decide) ?_
    refine j_dald (pc := 2319) g 1 rfl (show gx_in (0 : Int32) 1 by decide) dL_law_2319 ?_
    refine j_fload (pc := 2320) g 0 dL_law_2320 rfl ?_
    refine j_f2d (pc := 2322) g hn1 dL_law_2322 ?_
    refine j_dcmp (pc := 2323) g dL_law_2323 ?_
    refine j_if_eq (tgt := 2349) (pc := 2324) g dL_law_2324 (by decide) (fun _ => ?_) (fun h9 => absurd hc1 h9)
    refine j_goto (tgt := 2781) (pc := 2349) g dL_law_2349 (by decide) ?_
    refine j_sub (pc := 2781) g [2, 3, 4, 5, 6, 7] rfl ?_
    exact j_widen g (by omega) (by omega) (next σk σm1 fo (vf_upd fd (0 : Int32).toNatClampNeg (FP.f2d r)) hR)
  · refine j_aload_n (pc := 2286) g 4 dL_law_2286 rfl ?_
    refine j_aload (pc := 2287) g 1 dL_law_2287 rfl ?_
    refine j_callH (pc := 2289) (na := 2) (As := [.ref (ad 0), .ref od]) (rest := []) (r := 1) (w' := ((o, .inl (t 4, 1, .inr (.inl fo))) :: (od, .inl (t 5, 1, .inr (.inr (.inr (.inl fd))))) :: (mC am t σm ++ kW aa ad t σk1 []))) g (hL_executedShare_x1 (rs := (o, .inl (t 4, 1, .inr (.inl fo))) :: mC am t σm) hst hf) q_t_L_executedShare q_w_L_executedShare q_l_L_292 q_n_L (by decide) (by decide +kernel) rfl ⟨Nat.le_of_ble_eq_true rfl, Nat.le_of_ble_eq_true rfl⟩ ⟨by omega, by omega⟩ (Nat.le_of_ble_eq_true rfl) (lw_pm_d aa ad am t σk σm _ _) (lw_pm_d aa ad am t σk1 σm _ _).symm dL_law_2289 ?_ rfl
    have hkk : k + 1 ≤ room_1.cells := by omega
    have hnn : n + 6 ≤ room_1.slots := by omega
    refine j_istore (L' := [(6, .int 1), (5, .int i), (4, .ref od), (3, .ref o), (2, .ref (am 0)), (1, .ref (ad 0)), (0, .ref b)]) (pc := 2292) g dL_law_2292 (Nat.le_of_ble_eq_true rfl) rfl ?_
    refine j_aload_n (pc := 2294) g 4 dL_law_2294 rfl ?_
    refine j_callVa (pc := 2295) (na := 0) (As := []) (rest := []) (q0 := 2) (ci := 10) (w' := ((o, .inl (t 4, 1, .inr (.inl fo))) :: (od, .inl (t 5, 1, .inr (.inr (.inr (.inl fd))))) :: (mC am t σm1 ++ kW aa ad t σk1 []))) g (cX9_executedShare_ (rs := (o, .inl (t 4, 1, .inr (.inl fo))) :: (od, .inl (t 5, 1, .inr (.inr (.inr (.inl fd))))) :: kW aa ad t σk1 []) hm) q_i_X9_executedShare q_s_X9_executedShare rfl rfl rfl q_c_X9_executedShare q_l_L_295 q_n_X9 (by decide +kernel) rfl ⟨Nat.le_of_ble_eq_true rfl, Nat.le_of_ble_eq_true rfl⟩ ⟨hkk, hnn⟩ (Nat.le_of_ble_eq_true rfl) (lw_pm_m aa ad am t σk1 σm _ _) (lw_pm_m aa ad am t σk1 σm1 _ _).symm dL_law_2295 ?_ rfl
    refine j_fstore (L' := [(7, .float r), (6, .int 1), (5, .int i), (4, .ref od), (3, .ref o), (2, .ref (am 0)), (1, .ref (ad 0)), (0, .ref b)]) (pc := 2298) g dL_law_2298 (Nat.le_of_ble_eq_true rfl) rfl ?_
    refine j_aload_n (pc := 2300) g 5 dL_law_2300 rfl ?_
    refine j_callVi (pc := 2301) (na := 0) (As := []) (rest := []) (q0 := 2) (ci := 10) (w' := ((o, .inl (t 4, 1, .inr (.inl fo))) :: (od, .inl (t 5, 1, .inr (.inr (.inr (.inl fd))))) :: (mC am t σm1 ++ kW aa ad t σk1 []))) g (cX9_thrown_ (rs := (o, .inl (t 4, 1, .inr (.inl fo))) :: (od, .inl (t 5, 1, .inr (.inr (.inr (.inl fd))))) :: kW aa ad t σk1 []) rfl) q_i_X9_thrown q_s_X9_thrown rfl rfl rfl q_c_X9_thrown q_l_L_155 q_n_X9 (by decide +kernel) rfl ⟨Nat.le_of_ble_eq_true rfl, Nat.le_of_ble_eq_true rfl⟩ ⟨hkk, hnn⟩ (Nat.le_of_ble_eq_true rfl) (lw_pm_m aa ad am t σk1 σm1 _ _) (lw_pm_m aa ad am t σk1 σm1 _ _).symm dL_law_2301 ?_ rfl
    refine j_iload (pc := 2304) g 1 dL_law_2304 rfl ?_
    refine j_icmp_eq (tgt := 2311) (pc := 2306) g dL_law_2306 (by decide) (fun _ => ?_) (fun h9 => absurd h0 h9)
    refine j_iload (pc := 2311) g 1 dL_law_2311 rfl ?_
    refine j_if_ne (tgt := 2349) (pc := 2313) g dL_law_2313 (by decide) (fun _ => ?_) (fun h9 => absurd h9 (by decide))
    refine j_goto (tgt := 2781) (pc := 2349) g dL_law_2349 (by decide) ?_
    refine j_sub (pc := 2781) g [2, 3, 4, 5, 6, 7] rfl ?_
    exact j_widen g (by omega) (by omega) (next σk1 σm1 fo fd hR)
set_option maxRecDepth 100000 in
set_option maxHeartbeats 4000000 in
theorem lw_c41 {D : va_G} {t : Nat → ClassId} {aa : gx_AA} {l : Launch} {J : gx_J} {b Ln : Nat} {xs : Nat → Int32} (gl : gx_GL D t (gx_E0 aa) l room_1 cL_law RL 10 J b Ln xs) (hst : l.stackTraces = false) {k n : Nat} (hk : k + 1 ≤ room_1.cells) (hn : n + 6 ≤ room_1.slots) {i : Int32} (h1 : vp_in (i + 1) Ln) (h2 : vp_in (i + 2) Ln) (h3 : vp_in (i + 3) Ln) {ad am : Nat → Nat} {o od : Nat} {σk : CS} {σm : OS} {fo : Nat → Int64} {fd : Nat → UInt64} {R : CS → OS → Prop} (hag : Ag_isConsistent R σk σm) (next : ∀ (σk2 : CS) (σm2 : OS) (fo2 : Nat → Int64) (fd2 : Nat → UInt64), R σk2 σm2 → J (k + 1) (n + 6) ((o, .inl (t 4, 1, .inr (.inl fo2))) :: (od, .inl (t 5, 1, .inr (.inr (.inr (.inl fd2))))) :: (mC am t σm2 ++ kW aa ad t σk2 [])) 2781 [(5, .int i), (4, .ref od), (3, .ref o), (2, .ref (am 0)), (1, .ref (ad 0)), (0, .ref b)] []) : J k n ((o, .inl (t 4, 1, .inr (.inl fo))) :: (od, .inl (t 5, 1, .inr (.inr (.inr (.inl fd))))) :: (mC am t σm ++ kW aa ad t σk [])) 2352 [(5, .int i), (4, .ref od), (3, .ref o), (2, .ref (am 0)), (1, .ref (ad 0)), (0, .ref b)] [] := by
  have g := gl.g
  have hkk : k ≤ room_1.cells := by omega
  have hnn : n ≤ room_1.slots := by omega
  obtain ⟨r, σm1, hm, hf, hR⟩ := hag
  refine j_aload_n (pc := 2352) g 4 dL_law_2352 rfl ?_
  refine j_callVi (pc := 2353) (na := 0) (As := []) (rest := []) (q0 := 10) (ci := 9) (w' := ((o, .inl (t 4, 1, .inr (.inl fo))) :: (od, .inl (t 5, 1, .inr (.inr (.inr (.inl fd))))) :: (mC am t σm ++ kW aa ad t σk []))) g (cX8_isConsistent_ (rs := (o, .inl (t 4, 1, .inr (.inl fo))) :: (od, .inl (t 5, 1, .inr (.inr (.inr (.inl fd))))) :: mC am t σm) hf) q_i_X8_isConsistent q_s_X8_isConsistent rfl rfl (lw_at9 aa ad am t σk σm _ _) q_c_X8_isConsistent q_l_L_296 q_n_X8 (by decide +kernel) rfl ⟨Nat.le_of_ble_eq_true rfl, Nat.le_of_ble_eq_true rfl⟩ ⟨hkk, hnn⟩ (Nat.le_of_ble_eq_true rfl) (lw_pm_k aa ad am t σk σm _ _) (lw_pm_k aa ad am t σk σm _ _).symm dL_law_2353 ?_ rfl
  refine j_aload_n (pc := 2356) g 3 dL_law_2356 rfl ?_
  refine j_callVi (pc := 2357) (na := 0) (As := []) (rest := [.int r]) (q0 := 2) (ci := 10) (w' := ((o, .inl (t 4, 1, .inr (.inl fo))) :: (od, .inl (t 5, 1, .inr (.inr (.inr (.inl fd))))) :: (mC am t σm1 ++ kW aa ad t σk []))) g (cX9_isConsistent_ (rs := (o, .inl (t 4, 1, .inr (.inl fo))) :: (od, .inl (t 5, 1, .inr (.inr (.inr (.inl fd))))) :: kW aa ad t σk []) hm) q_i_X9_isConsistent q_s_X9_isConsistent rfl rfl rfl q_c_X9_isConsistent q_l_L_300 q_n_X9 (by decide +kernel) rfl ⟨Nat.le_of_ble_eq_true rfl, Nat.le_of_ble_eq_true rfl⟩ ⟨hkk, hnn⟩ (Nat.le_of_ble_eq_true rfl) (lw_pm_m aa ad am t σk σm _ _) (lw_pm_m aa ad am t σk σm1 _ _).symm dL_law_2357 ?_ rfl
  refine j_icmp_eq (tgt := 2781) (pc := 2360) g dL_law_2360 (by decide) (fun _ => ?_) (fun h9 => absurd rfl h9)
  refine j_sub (pc := 2781) g [0, 1, 2, 3, 4, 5] rfl ?_
  exact j_widen g (by omega) (by omega) (next σk σm1 fo fd hR)
set_option maxRecDepth 100000 in
set_option maxHeartbeats 4000000 in
theorem lw_c42 {D : va_G} {t : Nat → ClassId} {aa : gx_AA} {l : Launch} {J : gx_J} {b Ln : Nat} {xs : Nat → Int32} (gl : gx_GL D t (gx_E0 aa) l room_1 cL_law RL 10 J b Ln xs) (hst : l.stackTraces = false) {k n : Nat} (hk : k + 1 ≤ room_1.cells) (hn : n + 6 ≤ room_1.slots) {i : Int32} (h1 : vp_in (i + 1) Ln) (h2 : vp_in (i + 2) Ln) (h3 : vp_in (i + 3) Ln) {ad am : Nat → Nat} {o od : Nat} {σk : CS} {σm : OS} {fo : Nat → Int64} {fd : Nat → UInt64} {R : CS → OS → Prop} (hag : Ag_feed R σk σm (((xs (i + 1).toNatClampNeg).toUInt32 % 65536).toInt32)) (next : ∀ (σk2 : CS) (σm2 : OS) (fo2 : Nat → Int64) (fd2 : Nat → UInt64), R σk2 σm2 → J (k + 1) (n + 6) ((o, .inl (t 4, 1, .inr (.inl fo2))) :: (od, .inl (t 5, 1, .inr (.inr (.inr (.inl fd2))))) :: (mC am t σm2 ++ kW aa ad t σk2 [])) 2781 [(5, .int i), (4, .ref od), (3, .ref o), (2, .ref (am 0)), (1, .ref (ad 0)), (0, .ref b)] []) : J k n ((o, .inl (t 4, 1, .inr (.inl fo))) :: (od, .inl (t 5, 1, .inr (.inr (.inr (.inl fd))))) :: (mC am t σm ++ kW aa ad t σk [])) 2365 [(5, .int i), (4, .ref od), (3, .ref o), (2, .ref (am 0)), (1, .ref (ad 0)), (0, .ref b)] [] := by
  have g := gl.g
  have hkk : k ≤ room_1.cells := by omega
  have hnn : n ≤ room_1.slots := by omega
  obtain ⟨r, σm1, hm, hag⟩ := hag
  rcases hag with ⟨σk1, hf, h0, hR⟩ | ⟨σk1, hf, h0, hR⟩
  · refine j_aload_n (pc := 2365) g 4 dL_law_2365 rfl ?_
    refine j_aload_n (pc := 2366) g 5 dL_law_2366 rfl ?_
    refine j_iload (pc := 2367) g 0 dL_law_2367 rfl ?_
    refine j_iconst (v := 1) (pc := 2369) g dL_law_2369 (by decide) ?_
    refine j_iadd (pc := 2370) g dL_law_2370 ?_
    refine j_sld (pc := 2371) gl h1 dL_law_2371 ?_
    refine j_i2c (pc := 2372) g dL_law_2372 ?_
    refine j_aload_n (pc := 2373) g 2 dL_law_2373 rfl ?_
    refine j_callH (pc := 2374) (na := 3) (As := [.ref (ad 0), .int (((xs (i + 1).toNatClampNeg).toUInt32 % 65536).toInt32), .ref o]) (rest := []) (r := 0) (w' := ((o, .inl (t 4, 1, .inr (.inl (vp_updL fo (0 : Int32).toNatClampNeg r.toInt64)))) :: (od, .inl (t 5, 1, .inr (.inr (.inr (.inl fd))))) :: (mC am t σm ++ kW aa ad t σk1 []))) g (hL_feed_ok (rs := (od, .inl (t 5, 1, .inr (.inr (.inr (.inl fd))))) :: mC am t σm) hst hf) q_t_L_feed q_w_L_feed q_l_L_301 q_n_L (by decide) (by decide +kernel) rfl ⟨Nat.le_of_ble_eq_true rfl, Nat.le_of_ble_eq_true rfl⟩ ⟨by omega, by omega⟩ (Nat.le_of_ble_eq_true rfl) (lw_pm_h aa ad am t σk σm _ _) (lw_pm_h aa ad am t σk1 σm _ _).symm dL_law_2374 ?_ rfl
    have hkk : k + 0 ≤ room_1.cells := by omega
    have hnn : n + 0 ≤ room_1.slots := by omega
    refine j_istore (L' := [(6, .int 0), (5, .int i), (4, .ref od), (3, .ref o), (2, .ref (am 0)), (1, .ref (ad 0)), (0, .ref b)]) (pc := 2377) g dL_law_2377 (Nat.le_of_ble_eq_true rfl) rfl ?_
    refine j_aload_n (pc := 2379) g 4 dL_law_2379 rfl ?_
    refine j_aload_n (pc := 2380) g 6 dL_law_2380 rfl ?_
    refine j_iload (pc := 2381) g 1 dL_law_2381 rfl ?_
    refine j_iconst (v := 1) (pc := 2383) g dL_law_2383 (by decide) ?_
    refine j_iadd (pc := 2384) g dL_law_2384 ?_
    refine j_sld (pc := 2385) gl h1 dL_law_2385 ?_
    refine j_i2c (pc := 2386) g dL_law_2386 ?_
    refine j_callVi (pc := 2387) (na := 1) (As := [.int (((xs (i + 1).toNatClampNeg).toUInt32 % 65536).toInt32)]) (rest := []) (q0 := 2) (ci := 10) (w' := ((o, .inl (t 4, 1, .inr (.inl (vp_updL fo (0 : Int32).toNatClampNeg r.toInt64)))) :: (od, .inl (t 5, 1, .inr (.inr (.inr (.inl fd))))) :: (mC am t σm1 ++ kW aa ad t σk1 []))) g (cX9_feed_ (rs := (o, .inl (t 4, 1, .inr (.inl (vp_updL fo (0 : Int32).toNatClampNeg r.toInt64)))) :: (od, .inl (t 5, 1, .inr (.inr (.inr (.inl fd))))) :: kW aa ad t σk1 []) hm) q_i_X9_feed q_s_X9_feed rfl rfl rfl q_c_X9_feed q_l_L_304 q_n_X9 (by decide +kernel) rfl ⟨Nat.le_of_ble_eq_true rfl, Nat.le_of_ble_eq_true rfl⟩ ⟨hkk, hnn⟩ (Nat.le_of_ble_eq_true rfl) (lw_pm_m aa ad am t σk1 σm _ _) (lw_pm_m aa ad am t σk1 σm1 _ _).symm dL_law_2387 ?_ rfl
    refine j_istore (L' := [(7, .int r), (6, .int 0), (5, .int i), (4, .ref od), (3, .ref o), (2, .ref (am 0)), (1, .ref (ad 0)), (0, .ref b)]) (pc := 2390) g dL_law_2390 (Nat.le_of_ble_eq_true rfl) rfl ?_
    refine j_aload_n (pc := 2392) g 5 dL_law_2392 rfl ?_
    refine j_callVi (pc := 2393) (na := 0) (As := []) (rest := []) (q0 := 2) (ci := 10) (w' := ((o, .inl (t 4, 1, .inr (.inl (vp_updL fo (0 : Int32).toNatClampNeg r.toInt64)))) :: (od, .inl (t 5, 1, .inr (.inr (.inr (.inl fd))))) :: (mC am t σm1 ++ kW aa ad t σk1 []))) g (cX9_thrown_ (rs := (o, .inl (t 4, 1, .inr (.inl (vp_updL fo (0 : Int32).toNatClampNeg r.toInt64)))) :: (od, .inl (t 5, 1, .inr (.inr (.inr (.inl fd))))) :: kW aa ad t σk1 []) rfl) q_i_X9_thrown q_s_X9_thrown rfl rfl rfl q_c_X9_thrown q_l_L_155 q_n_X9 (by decide +kernel) rfl ⟨Nat.le_of_ble_eq_true rfl, Nat.le_of_ble_eq_true rfl⟩ ⟨hkk, hnn⟩ (Nat.le_of_ble_eq_true rfl) (lw_pm_m aa ad am t σk1 σm1 _ _) (lw_pm_m aa ad am t σk1 σm1 _ _).symm dL_law_2393 ?_ rfl
    refine j_iload (pc := 2396) g 1 dL_law_2396 rfl ?_
    refine j_icmp_eq (tgt := 2403) (pc := 2398) g dL_law_2398 (by decide) (fun _ => ?_) (fun h9 => absurd h0 h9)
    refine j_iload (pc := 2403) g 1 dL_law_2403 rfl ?_
    refine j_if_ne (tgt := 2420) (pc := 2405) g dL_law_2405 (by decide) (fun h9 => absurd rfl h9) (fun _ => ?_)
    refine j_aload_n (pc := 2408) g 4 dL_law_2408 rfl ?_
    refine j_iconst (v := 0) (pc := 2409) g dL_law_2409 (by decide) ?_
    refine j_lald (pc := 2410) g 0 rfl (show gx_in (0 : Int32) 1 by decide) dL_law_2410 ?_
    refine j_iload (pc := 2411) g 0 dL_law_2411 rfl ?_
    refine j_i2l (pc := 2413) g dL_law_2413 ?_
    refine j_lcmp (pc := 2414) g dL_law_2414 ?_
    refine j_if_eq (tgt := 2420) (pc := 2415) g dL_law_2415 (by decide) (fun _ => ?_) (fun h9 => absurd (lw_cmp0 _) h9)
    refine j_goto (tgt := 2781) (pc := 2420) g dL_law_2420 (by decide) ?_
    refine j_sub (pc := 2781) g [2, 3, 4, 5, 6, 7] rfl ?_
    exact j_widen g (by omega) (by omega) (next σk1 σm1 (vp_updL fo (0 : Int32).toNatClampNeg r.toInt64) fd hR)
  · refine j_aload_n (pc := 2365) g 4 dL_law_2365 rfl ?_
    refine j_aload_n (pc := 2366) g 5 dL_law_2366 rfl ?_
    refine j_iload (pc := 2367) g 0 dL_law_2367 rfl ?_
    refine j_iconst (v := 1) (pc := 2369) g dL_law_2369 (by decide) ?_
    refine j_iadd (pc := 2370) g dL_law_2370 ?_
    refine j_sld (pc := 2371) gl h1 dL_law_2371 ?_
    refine j_i2c (pc := 2372) g dL_law_2372 ?_
    refine j_aload_n (pc := 2373) g 2 dL_law_2373 rfl ?_
    refine j_callH (pc := 2374) (na := 3) (As := [.ref (ad 0), .int (((xs (i + 1).toNatClampNeg).toUInt32 % 65536).toInt32), .ref o]) (rest := []) (r := 1) (w' := ((o, .inl (t 4, 1, .inr (.inl fo))) :: (od, .inl (t 5, 1, .inr (.inr (.inr (.inl fd))))) :: (mC am t σm ++ kW aa ad t σk1 []))) g (hL_feed_x1 (rs := (od, .inl (t 5, 1, .inr (.inr (.inr (.inl fd))))) :: mC am t σm) hst hf) q_t_L_feed q_w_L_feed q_l_L_301 q_n_L (by decide) (by decide +kernel) rfl ⟨Nat.le_of_ble_eq_true rfl, Nat.le_of_ble_eq_true rfl⟩ ⟨by omega, by omega⟩ (Nat.le_of_ble_eq_true rfl) (lw_pm_h aa ad am t σk σm _ _) (lw_pm_h aa ad am t σk1 σm _ _).symm dL_law_2374 ?_ rfl
    have hkk : k + 1 ≤ room_1.cells := by omega
    have hnn : n + 6 ≤ room_1.slots := by omega
    refine j_istore (L' := [(6, .int 1), (5, .int i), (4, .ref od), (3, .ref o), (2, .ref (am 0)), (1, .ref (ad 0)), (0, .ref b)]) (pc := 2377) g dL_law_2377 (Nat.le_of_ble_eq_true rfl) rfl ?_
    refine j_aload_n (pc := 2379) g 4 dL_law_2379 rfl ?_
    refine j_aload_n (pc := 2380) g 6 dL_law_2380 rfl ?_
    refine j_iload (pc := 2381) g 1 dL_law_2381 rfl ?_
    refine j_iconst (v := 1) (pc := 2383) g dL_law_2383 (by decide) ?_
    refine j_iadd (pc := 2384) g dL_law_2384 ?_
    refine j_sld (pc := 2385) gl h1 dL_law_2385 ?_
    refine j_i2c (pc := 2386) g dL_law_2386 ?_
    refine j_callVi (pc := 2387) (na := 1) (As := [.int (((xs (i + 1).toNatClampNeg).toUInt32 % 65536).toInt32)]) (rest := []) (q0 := 2) (ci := 10) (w' := ((o, .inl (t 4, 1, .inr (.inl fo))) :: (od, .inl (t 5, 1, .inr (.inr (.inr (.inl fd))))) :: (mC am t σm1 ++ kW aa ad t σk1 []))) g (cX9_feed_ (rs := (o, .inl (t 4, 1, .inr (.inl fo))) :: (od, .inl (t 5, 1, .inr (.inr (.inr (.inl fd))))) :: kW aa ad t σk1 []) hm) q_i_X9_feed q_s_X9_feed rfl rfl rfl q_c_X9_feed q_l_L_304 q_n_X9 (by decide +kernel) rfl ⟨Nat.le_of_ble_eq_true rfl, Nat.le_of_ble_eq_true rfl⟩ ⟨hkk, hnn⟩ (Nat.le_of_ble_eq_true rfl) (lw_pm_m aa ad am t σk1 σm _ _) (lw_pm_m aa ad am t σk1 σm1 _ _).symm dL_law_2387 ?_ rfl
    refine j_istore (L' := [(7, .int r), (6, .int 1), (5, .int i), (4, .ref od), (3, .ref o), (2, .ref (am 0)), (1, .ref (ad 0)), (0, .ref b)]) (pc := 2390) g dL_law_2390 (Nat.le_of_ble_eq_true rfl) rfl ?_
    refine j_aload_n (pc := 2392) g 5 dL_law_2392 rfl ?_
    refine j_callVi (pc := 2393) (na := 0) (As := []) (rest := []) (q0 := 2) (ci := 10) (w' := ((o, .inl (t 4, 1, .inr (.inl fo))) :: (od, .inl (t 5, 1, .inr (.inr (.inr (.inl fd))))) :: (mC am t σm1 ++ kW aa ad t σk1 []))) g (cX9_thrown_ (rs := (o, .inl (t 4, 1, .inr (.inl fo))) :: (od, .inl (t 5, 1, .inr (.inr (.inr (.inl fd))))) :: kW aa ad t σk1 []) rfl) q_i_X9_thrown q_s_X9_thrown rfl rfl rfl q_c_X9_thrown q_l_L_155 q_n_X9 (by decide +kernel) rfl ⟨Nat.le_of_ble_eq_true rfl, Nat.le_of_ble_eq_true rfl⟩ ⟨hkk, hnn⟩ (Nat.le_of_ble_eq_true rfl) (lw_pm_m aa ad am t σk1 σm1 _ _) (lw_pm_m aa ad am t σk1 σm1 _ _).symm dL_law_2393 ?_ rfl
    refine j_iload (pc := 2396) g 1 dL_law_2396 rfl ?_
    refine j_icmp_eq (tgt := 2403) (pc := 2398) g dL_law_2398 (by decide) (fun _ => ?_) (fun h9 => absurd h0 h9)
    refine j_iload (pc := 2403) g 1 dL_law_2403 rfl ?_
    refine j_if_ne (tgt := 2420) (pc := 2405) g dL_law_2405 (by decide) (fun _ => ?_) (fun h9 => absurd h9 (by decide))
    refine j_goto (tgt := 2781) (pc := 2420) g dL_law_2420 (by decide) ?_
    refine j_sub (pc := 2781) g [2, 3, 4, 5, 6, 7] rfl ?_
    exact j_widen g (by omega) (by omega) (next σk1 σm1 fo fd hR)
set_option maxRecDepth 100000 in
set_option maxHeartbeats 4000000 in
theorem lw_c43 {D : va_G} {t : Nat → ClassId} {aa : gx_AA} {l : Launch} {J : gx_J} {b Ln : Nat} {xs : Nat → Int32} (gl : gx_GL D t (gx_E0 aa) l room_1 cL_law RL 10 J b Ln xs) (hst : l.stackTraces = false) {k n : Nat} (hk : k + 1 ≤ room_1.cells) (hn : n + 6 ≤ room_1.slots) {i : Int32} (h1 : vp_in (i + 1) Ln) (h2 : vp_in (i + 2) Ln) (h3 : vp_in (i + 3) Ln) {ad am : Nat → Nat} {o od : Nat} {σk : CS} {σm : OS} {fo : Nat → Int64} {fd : Nat → UInt64} {R : CS → OS → Prop} (hag : Ag_runCommands R σk σm) (next : ∀ (σk2 : CS) (σm2 : OS) (fo2 : Nat → Int64) (fd2 : Nat → UInt64), R σk2 σm2 → J (k + 1) (n + 6) ((o, .inl (t 4, 1, .inr (.inl fo2))) :: (od, .inl (t 5, 1, .inr (.inr (.inr (.inl fd2))))) :: (mC am t σm2 ++ kW aa ad t σk2 [])) 2781 [(5, .int i), (4, .ref od), (3, .ref o), (2, .ref (am 0)), (1, .ref (ad 0)), (0, .ref b)] []) : J k n ((o, .inl (t 4, 1, .inr (.inl fo))) :: (od, .inl (t 5, 1, .inr (.inr (.inr (.inl fd))))) :: (mC am t σm ++ kW aa ad t σk [])) 2423 [(5, .int i), (4, .ref od), (3, .ref o), (2, .ref (am 0)), (1, .ref (ad 0)), (0, .ref b)] [] := by
  have g := gl.g
  have hkk : k ≤ room_1.cells := by omega
  have hnn : n ≤ room_1.slots := by omega
  obtain ⟨r, σm1, hm, hag⟩ := hag
  rcases hag with ⟨σk1, hf, h0, hR⟩ | ⟨σk1, hf, h0, hR⟩ | ⟨σk1, hf, h0, hR⟩
  · refine j_aload_n (pc := 2423) g 4 dL_law_2423 rfl ?_
    refine j_aload_n (pc := 2424) g 2 dL_law_2424 rfl ?_
    refine j_callH (pc := 2425) (na := 2) (As := [.ref (ad 0), .ref o]) (rest := []) (r := 0) (w' := ((o, .inl (t 4, 1, .inr (.inl (vp_updL fo (0 : Int32).toNatClampNeg r.toInt64)))) :: (od, .inl (t 5, 1, .inr (.inr (.inr (.inl fd))))) :: (mC am t σm ++ kW aa ad t σk1 []))) g (hL_runCommands_ok (rs := (od, .inl (t 5, 1, .inr (.inr (.inr (.inl fd))))) :: mC am t σm) hst hf) q_t_L_runCommands q_w_L_runCommands q_l_L_305 q_n_L (by decide) (by decide +kernel) rfl ⟨Nat.le_of_ble_eq_true rfl, Nat.le_of_ble_eq_true rfl⟩ ⟨by omega, by omega⟩ (Nat.le_of_ble_eq_true rfl) (lw_pm_h aa ad am t σk σm _ _) (lw_pm_h aa ad am t σk1 σm _ _).symm dL_law_2425 ?_ rfl
    have hkk : k + 0 ≤ room_1.cells := by omega
    have hnn : n + 0 ≤ room_1.slots := by omega
    refine j_istore (L' := [(6, .int 0), (5, .int i), (4, .ref od), (3, .ref o), (2, .ref (am 0)), (1, .ref (ad 0)), (0, .ref b)]) (pc := 2428) g dL_law_2428 (Nat.le_of_ble_eq_true rfl) rfl ?_
    refine j_aload_n (pc := 2430) g 4 dL_law_2430 rfl ?_
    refine j_callVi (pc := 2431) (na := 0) (As := []) (rest := []) (q0 := 2) (ci := 10) (w' := ((o, .inl (t 4, 1, .inr (.inl (vp_updL fo (0 : Int32).toNatClampNeg r.toInt64)))) :: (od, .inl (t 5, 1, .inr (.inr (.inr (.inl fd))))) :: (mC am t σm1 ++ kW aa ad t σk1 []))) g (cX9_runCommands_ (rs := (o, .inl (t 4, 1, .inr (.inl (vp_updL fo (0 : Int32).toNatClampNeg r.toInt64)))) :: (od, .inl (t 5, 1, .inr (.inr (.inr (.inl fd))))) :: kW aa ad t σk1 []) hm) q_i_X9_runCommands q_s_X9_runCommands rfl rfl rfl q_c_X9_runCommands q_l_L_308 q_n_X9 (by decide +kernel) rfl ⟨Nat.le_of_ble_eq_true rfl, Nat.le_of_ble_eq_true rfl⟩ ⟨hkk, hnn⟩ (Nat.le_of_ble_eq_true rfl) (lw_pm_m aa ad am t σk1 σm _ _) (lw_pm_m aa ad am t σk1 σm1 _ _).symm dL_law_2431 ?_ rfl
    refine j_istore (L' := [(7, .int r), (6, .int 0), (5, .int i), (4, .ref od), (3, .ref o), (2, .ref (am 0)), (1, .ref (ad 0)), (0, .ref b)]) (pc := 2434) g dL_law_2434 (Nat.le_of_ble_eq_true rfl) rfl ?_
    refine j_aload_n (pc := 2436) g 5 dL_law_2436 rfl ?_
    refine j_callVi (pc := 2437) (na := 0) (As := []) (rest := []) (q0 := 2) (ci := 10) (w' := ((o, .inl (t 4, 1, .inr (.inl (vp_updL fo (0 : Int32).toNatClampNeg r.toInt64)))) :: (od, .inl (t 5, 1, .inr (.inr (.inr (.inl fd))))) :: (mC am t σm1 ++ kW aa ad t σk1 []))) g (cX9_thrown_ (rs := (o, .inl (t 4, 1, .inr (.inl (vp_updL fo (0 : Int32).toNatClampNeg r.toInt64)))) :: (od, .inl (t 5, 1, .inr (.inr (.inr (.inl fd))))) :: kW aa ad t σk1 []) rfl) q_i_X9_thrown q_s_X9_thrown rfl rfl rfl q_c_X9_thrown q_l_L_155 q_n_X9 (by decide +kernel) rfl ⟨Nat.le_of_ble_eq_true rfl, Nat.le_of_ble_eq_true rfl⟩ ⟨hkk, hnn⟩ (Nat.le_of_ble_eq_true rfl) (lw_pm_m aa ad am t σk1 σm1 _ _) (lw_pm_m aa ad am t σk1 σm1 _ _).symm dL_law_2437 ?_ rfl
    refine j_iload (pc := 2440) g 1 dL_law_2440 rfl ?_
    refine j_icmp_eq (tgt := 2447) (pc := 2442) g dL_law_2442 (by decide) (fun _ => ?_) (fun h9 => absurd h0 h9)
    refine j_iload (pc := 2447) g 1 dL_law_2447 rfl ?_
    refine j_if_ne (tgt := 2464) (pc := 2449) g dL_law_2449 (by decide) (fun h9 => absurd rfl h9) (fun _ => ?_)
    refine j_aload_n (pc := 2452) g 4 dL_law_2452 rfl ?_
    refine j_iconst (v := 0) (pc := 2453) g dL_law_2453 (by decide) ?_
    refine j_lald (pc := 2454) g 0 rfl (show gx_in (0 : Int32) 1 by decide) dL_law_2454 ?_
    refine j_iload (pc := 2455) g 0 dL_law_2455 rfl ?_
    refine j_i2l (pc := 2457) g dL_law_2457 ?_
    refine j_lcmp (pc := 2458) g dL_law_2458 ?_
    refine j_if_eq (tgt := 2464) (pc := 2459) g dL_law_2459 (by decide) (fun _ => ?_) (fun h9 => absurd (lw_cmp0 _) h9)
    refine j_goto (tgt := 2781) (pc := 2464) g dL_law_2464 (by decide) ?_
    refine j_sub (pc := 2781) g [2, 3, 4, 5, 6, 7] rfl ?_
    exact j_widen g (by omega) (by omega) (next σk1 σm1 (vp_updL fo (0 : Int32).toNatClampNeg r.toInt64) fd hR)
  · refine j_aload_n (pc := 2423) g 4 dL_law_2423 rfl ?_
    refine j_aload_n (pc := 2424) g 2 dL_law_2424 rfl ?_
    refine j_callH (pc := 2425) (na := 2) (As := [.ref (ad 0), .ref o]) (rest := []) (r := 1) (w' := ((o, .inl (t 4, 1, .inr (.inl fo))) :: (od, .inl (t 5, 1, .inr (.inr (.inr (.inl fd))))) :: (mC am t σm ++ kW aa ad t σk1 []))) g (hL_runCommands_x1 (rs := (od, .inl (t 5, 1, .inr (.inr (.inr (.inl fd))))) :: mC am t σm) hst hf) q_t_L_runCommands q_w_L_runCommands q_l_L_305 q_n_L (by decide) (by decide +kernel) rfl ⟨Nat.le_of_ble_eq_true rfl, Nat.le_of_ble_eq_true rfl⟩ ⟨by omega, by omega⟩ (Nat.le_of_ble_eq_true rfl) (lw_pm_h aa ad am t σk σm _ _) (lw_pm_h aa ad am t σk1 σm _ _).symm dL_law_2425 ?_ rfl
    have hkk : k + 1 ≤ room_1.cells := by omega
    have hnn : n + 6 ≤ room_1.slots := by omega
    refine j_istore (L' := [(6, .int 1), (5, .int i), (4, .ref od), (3, .ref o), (2, .ref (am 0)), (1, .ref (ad 0)), (0, .ref b)]) (pc := 2428) g dL_law_2428 (Nat.le_of_ble_eq_true rfl) rfl ?_
    refine j_aload_n (pc := 2430) g 4 dL_law_2430 rfl ?_
    refine j_callVi (pc := 2431) (na := 0) (As := []) (rest := []) (q0 := 2) (ci := 10) (w' := ((o, .inl (t 4, 1, .inr (.inl fo))) :: (od, .inl (t 5, 1, .inr (.inr (.inr (.inl fd))))) :: (mC am t σm1 ++ kW aa ad t σk1 []))) g (cX9_runCommands_ (rs := (o, .inl (t 4, 1, .inr (.inl fo))) :: (od, .inl (t 5, 1, .inr (.inr (.inr (.inl fd))))) :: kW aa ad t σk1 []) hm) q_i_X9_runCommands q_s_X9_runCommands rfl rfl rfl q_c_X9_runCommands q_l_L_308 q_n_X9 (by decide +kernel) rfl ⟨Nat.le_of_ble_eq_true rfl, Nat.le_of_ble_eq_true rfl⟩ ⟨hkk, hnn⟩ (Nat.le_of_ble_eq_true rfl) (lw_pm_m aa ad am t σk1 σm _ _) (lw_pm_m aa ad am t σk1 σm1 _ _).symm dL_law_2431 ?_ rfl
    refine j_istore (L' := [(7, .int r), (6, .int 1), (5, .int i), (4, .ref od), (3, .ref o), (2, .ref (am 0)), (1, .ref (ad 0)), (0, .ref b)]) (pc := 2434) g dL_law_2434 (Nat.le_of_ble_eq_true rfl) rfl ?_
    refine j_aload_n (pc := 2436) g 5 dL_law_2436 rfl ?_
    refine j_callVi (pc := 2437) (na := 0) (As := []) (rest := []) (q0 := 2) (ci := 10) (w' := ((o, .inl (t 4, 1, .inr (.inl fo))) :: (od, .inl (t 5, 1, .inr (.inr (.inr (.inl fd))))) :: (mC am t σm1 ++ kW aa ad t σk1 []))) g (cX9_thrown_ (rs := (o, .inl (t 4, 1, .inr (.inl fo))) :: (od, .inl (t 5, 1, .inr (.inr (.inr (.inl fd))))) :: kW aa ad t σk1 []) rfl) q_i_X9_thrown q_s_X9_thrown rfl rfl rfl q_c_X9_thrown q_l_L_155 q_n_X9 (by decide +kernel) rfl ⟨Nat.le_of_ble_eq_true rfl, Nat.le_of_ble_eq_true rfl⟩ ⟨hkk, hnn⟩ (Nat.le_of_ble_eq_true rfl) (lw_pm_m aa ad am t σk1 σm1 _ _) (lw_pm_m aa ad am t σk1 σm1 _ _).symm dL_law_2437 ?_ rfl
    refine j_iload (pc := 2440) g 1 dL_law_2440 rfl ?_
    refine j_icmp_eq (tgt := 2447) (pc := 2442) g dL_law_2442 (by decide) (fun _ => ?_) (fun h9 => absurd h0 h9)
    refine j_iload (pc := 2447) g 1 dL_law_2447 rfl ?_
    refine j_if_ne (tgt := 2464) (pc := 2449) g dL_law_2449 (by decide) (fun _ => ?_) (fun h9 => absurd h9 (by decide))
    refine j_goto (tgt := 2781) (pc := 2464) g dL_law_2464 (by decide) ?_
    refine j_sub (pc := 2781) g [2, 3, 4, 5, 6, 7] rfl ?_
    exact j_widen g (by omega) (by omega) (next σk1 σm1 fo fd hR)
  · refine j_aload_n (pc := 2423) g 4 dL_law_2423 rfl ?_
    refine j_aload_n (pc := 2424) g 2 dL_law_2424 rfl ?_
    refine j_callH (pc := 2425) (na := 2) (As := [.ref (ad 0), .ref o]) (rest := []) (r := 2) (w' := ((o, .inl (t 4, 1, .inr (.inl fo))) :: (od, .inl (t 5, 1, .inr (.inr (.inr (.inl fd))))) :: (mC am t σm ++ kW aa ad t σk1 []))) g (hL_runCommands_x2 (rs := (od, .inl (t 5, 1, .inr (.inr (.inr (.inl fd))))) :: mC am t σm) hst hf) q_t_L_runCommands q_w_L_runCommands q_l_L_305 q_n_L (by decide) (by decide +kernel) rfl ⟨Nat.le_of_ble_eq_true rfl, Nat.le_of_ble_eq_true rfl⟩ ⟨by omega, by omega⟩ (Nat.le_of_ble_eq_true rfl) (lw_pm_h aa ad am t σk σm _ _) (lw_pm_h aa ad am t σk1 σm _ _).symm dL_law_2425 ?_ rfl
    have hkk : k + 1 ≤ room_1.cells := by omega
    have hnn : n + 6 ≤ room_1.slots := by omega
    refine j_istore (L' := [(6, .int 2), (5, .int i), (4, .ref od), (3, .ref o), (2, .ref (am 0)), (1, .ref (ad 0)), (0, .ref b)]) (pc := 2428) g dL_law_2428 (Nat.le_of_ble_eq_true rfl) rfl ?_
    refine j_aload_n (pc := 2430) g 4 dL_law_2430 rfl ?_
    refine j_callVi (pc := 2431) (na := 0) (As := []) (rest := []) (q0 := 2) (ci := 10) (w' := ((o, .inl (t 4, 1, .inr (.inl fo))) :: (od, .inl (t 5, 1, .inr (.inr (.inr (.inl fd))))) :: (mC am t σm1 ++ kW aa ad t σk1 []))) g (cX9_runCommands_ (rs := (o, .inl (t 4, 1, .inr (.inl fo))) :: (od, .inl (t 5, 1, .inr (.inr (.inr (.inl fd))))) :: kW aa ad t σk1 []) hm) q_i_X9_runCommands q_s_X9_runCommands rfl rfl rfl q_c_X9_runCommands q_l_L_308 q_n_X9 (by decide +kernel) rfl ⟨Nat.le_of_ble_eq_true rfl, Nat.le_of_ble_eq_true rfl⟩ ⟨hkk, hnn⟩ (Nat.le_of_ble_eq_true rfl) (lw_pm_m aa ad am t σk1 σm _ _) (lw_pm_m aa ad am t σk1 σm1 _ _).symm dL_law_2431 ?_ rfl
    refine j_istore (L' := [(7, .int r), (6, .int 2), (5, .int i), (4, .ref od), (3, .ref o), (2, .ref (am 0)), (1, .ref (ad 0)), (0, .ref b)]) (pc := 2434) g dL_law_2434 (Nat.le_of_ble_eq_true rfl) rfl ?_
    refine j_aload_n (pc := 2436) g 5 dL_law_2436 rfl ?_
    refine j_callVi (pc := 2437) (na := 0) (As := []) (rest := []) (q0 := 2) (ci := 10) (w' := ((o, .inl (t 4, 1, .inr (.inl fo))) :: (od, .inl (t 5, 1, .inr (.inr (.inr (.inl fd))))) :: (mC am t σm1 ++ kW aa ad t σk1 []))) g (cX9_thrown_ (rs := (o, .inl (t 4, 1, .inr (.inl fo))) :: (od, .inl (t 5, 1, .inr (.inr (.inr (.inl fd))))) :: kW aa ad t σk1 []) rfl) q_i_X9_thrown q_s_X9_thrown rfl rfl rfl q_c_X9_thrown q_l_L_155 q_n_X9 (by decide +kernel) rfl ⟨Nat.le_of_ble_eq_true rfl, Nat.le_of_ble_eq_true rfl⟩ ⟨hkk, hnn⟩ (Nat.le_of_ble_eq_true rfl) (lw_pm_m aa ad am t σk1 σm1 _ _) (lw_pm_m aa ad am t σk1 σm1 _ _).symm dL_law_2437 ?_ rfl
    refine j_iload (pc := 2440) g 1 dL_law_2440 rfl ?_
    refine j_icmp_eq (tgt := 2447) (pc := 2442) g dL_law_2442 (by decide) (fun _ => ?_) (fun h9 => absurd h0 h9)
    refine j_iload (pc := 2447) g 1 dL_law_2447 rfl ?_
    refine j_if_ne (tgt := 2464) (pc := 2449) g dL_law_2449 (by decide) (fun _ => ?_) (fun h9 => absurd h9 (by decide))
    refine j_goto (tgt := 2781) (pc := 2464) g dL_law_2464 (by decide) ?_
    refine j_sub (pc := 2781) g [2, 3, 4, 5, 6, 7] rfl ?_
    exact j_widen g (by omega) (by omega) (next σk1 σm1 fo fd hR)
set_option maxRecDepth 100000 in
set_option maxHeartbeats 4000000 in
theorem lw_c44 {D : va_G} {t : Nat → ClassId} {aa : gx_AA} {l : Launch} {J : gx_J} {b Ln : Nat} {xs : Nat → Int32} (gl : gx_GL D t (gx_E0 aa) l room_1 cL_law RL 10 J b Ln xs) (hst : l.stackTraces = false) {k n : Nat} (hk : k + 1 ≤ room_1.cells) (hn : n + 6 ≤ room_1.slots) {i : Int32} (h1 : vp_in (i + 1) Ln) (h2 : vp_in (i + 2) Ln) (h3 : vp_in (i + 3) Ln) {ad am : Nat → Nat} {o od : Nat} {σk : CS} {σm : OS} {fo : Nat → Int64} {fd : Nat → UInt64} {R : CS → OS → Prop} (hag : Ag_errorPosition R σk σm) (next : ∀ (σk2 : CS) (σm2 : OS) (fo2 : Nat → Int64) (fd2 : Nat → UInt64), R σk2 σm2 → J (k + 1) (n + 6) ((o, .inl (t 4, 1, .inr (.inl fo2))) :: (od, .inl (t 5, 1, .inr (.inr (.inr (.inl fd2))))) :: (mC am t σm2 ++ kW aa ad t σk2 [])) 2781 [(5, .int i), (4, .ref od), (3, .ref o), (2, .ref (am 0)), (1, .ref (ad 0)), (0, .ref b)] []) : J k n ((o, .inl (t 4, 1, .inr (.inl fo))) :: (od, .inl (t 5, 1, .inr (.inr (.inr (.inl fd))))) :: (mC am t σm ++ kW aa ad t σk [])) 2467 [(5, .int i), (4, .ref od), (3, .ref o), (2, .ref (am 0)), (1, .ref (ad 0)), (0, .ref b)] [] := by
  have g := gl.g
  have hkk : k ≤ room_1.cells := by omega
  have hnn : n ≤ room_1.slots := by omega
  obtain ⟨r, σm1, hm, hag⟩ := hag
  rcases hag with ⟨hf, h0, hR⟩ | ⟨σk1, hf, h0, hR⟩
  · refine j_aload_n (pc := 2467) g 4 dL_law_2467 rfl ?_
    refine j_aload_n (pc := 2468) g 2 dL_law_2468 rfl ?_
    refine j_callH (pc := 2469) (na := 2) (As := [.ref (ad 0), .ref o]) (rest := []) (r := 0) (w' := ((o, .inl (t 4, 1, .inr (.inl (vp_updL fo (0 : Int32).toNatClampNeg r.toInt64)))) :: (od, .inl (t 5, 1, .inr (.inr (.inr (.inl fd))))) :: (mC am t σm ++ kW aa ad t σk []))) g (hL_errorPosition_ok (rs := (od, .inl (t 5, 1, .inr (.inr (.inr (.inl fd))))) :: mC am t σm) hst hf) q_t_L_errorPosition q_w_L_errorPosition q_l_L_309 q_n_L (by decide) (by decide +kernel) rfl ⟨Nat.le_of_ble_eq_true rfl, Nat.le_of_ble_eq_true rfl⟩ ⟨by omega, by omega⟩ (Nat.le_of_ble_eq_true rfl) (lw_pm_h aa ad am t σk σm _ _) (lw_pm_h aa ad am t σk σm _ _).symm dL_law_2469 ?_ rfl
    have hkk : k + 0 ≤ room_1.cells := by omega
    have hnn : n + 0 ≤ room_1.slots := by omega
    refine j_istore (L' := [(6, .int 0), (5, .int i), (4, .ref od), (3, .ref o), (2, .ref (am 0)), (1, .ref (ad 0)), (0, .ref b)]) (pc := 2472) g dL_law_2472 (Nat.le_of_ble_eq_true rfl) rfl ?_
    refine j_aload_n (pc := 2474) g 4 dL_law_2474 rfl ?_
    refine j_callVi (pc := 2475) (na := 0) (As := []) (rest := []) (q0 := 2) (ci := 10) (w' := ((o, .inl (t 4, 1, .inr (.inl (vp_updL fo (0 : Int32).toNatClampNeg r.toInt64)))) :: (od, .inl (t 5, 1, .inr (.inr (.inr (.inl fd))))) :: (mC am t σm1 ++ kW aa ad t σk []))) g (cX9_errorPosition_ (rs := (o, .inl (t 4, 1, .inr (.inl (vp_updL fo (0 : Int32).toNatClampNeg r.toInt64)))) :: (od, .inl (t 5, 1, .inr (.inr (.inr (.inl fd))))) :: kW aa ad t σk []) hm) q_i_X9_errorPosition q_s_X9_errorPosition rfl rfl rfl q_c_X9_errorPosition q_l_L_311 q_n_X9 (by decide +kernel) rfl ⟨Nat.le_of_ble_eq_true rfl, Nat.le_of_ble_eq_true rfl⟩ ⟨hkk, hnn⟩ (Nat.le_of_ble_eq_true rfl) (lw_pm_m aa ad am t σk σm _ _) (lw_pm_m aa ad am t σk σm1 _ _).symm dL_law_2475 ?_ rfl
    refine j_istore (L' := [(7, .int r), (6, .int 0), (5, .int i), (4, .ref od), (3, .ref o), (2, .ref (am 0)), (1, .ref (ad 0)), (0, .ref b)]) (pc := 2478) g dL_law_2478 (Nat.le_of_ble_eq_true rfl) rfl ?_
    refine j_aload_n (pc := 2480) g 5 dL_law_2480 rfl ?_
    refine j_callVi (pc := 2481) (na := 0) (As := []) (rest := []) (q0 := 2) (ci := 10) (w' := ((o, .inl (t 4, 1, .inr (.inl (vp_updL fo (0 : Int32).toNatClampNeg r.toInt64)))) :: (od, .inl (t 5, 1, .inr (.inr (.inr (.inl fd))))) :: (mC am t σm1 ++ kW aa ad t σk []))) g (cX9_thrown_ (rs := (o, .inl (t 4, 1, .inr (.inl (vp_updL fo (0 : Int32).toNatClampNeg r.toInt64)))) :: (od, .inl (t 5, 1, .inr (.inr (.inr (.inl fd))))) :: kW aa ad t σk []) rfl) q_i_X9_thrown q_s_X9_thrown rfl rfl rfl q_c_X9_thrown q_l_L_155 q_n_X9 (by decide +kernel) rfl ⟨Nat.le_of_ble_eq_true rfl, Nat.le_of_ble_eq_true rfl⟩ ⟨hkk, hnn⟩ (Nat.le_of_ble_eq_true rfl) (lw_pm_m aa ad am t σk σm1 _ _) (lw_pm_m aa ad am t σk σm1 _ _).symm dL_law_2481 ?_ rfl
    refine j_iload (pc := 2484) g 1 dL_law_2484 rfl ?_
    refine j_icmp_eq (tgt := 2491) (pc := 2486) g dL_law_2486 (by decide) (fun _ => ?_) (fun h9 => absurd h0 h9)
    refine j_iload (pc := 2491) g 1 dL_law_2491 rfl ?_
    refine j_if_ne (tgt := 2508) (pc := 2493) g dL_law_2493 (by decide) (fun h9 => absurd rfl h9) (fun _ => ?_)
    refine j_aload_n (pc := 2496) g 4 dL_law_2496 rfl ?_
    refine j_iconst (v := 0) (pc := 2497) g dL_law_2497 (by decide) ?_
    refine j_lald (pc := 2498) g 0 rfl (show gx_in (0 : Int32) 1 by decide) dL_law_2498 ?_
    refine j_iload (pc := 2499) g 0 dL_law_2499 rfl ?_
    refine j_i2l (pc := 2501) g dL_law_2501 ?_
    refine j_lcmp (pc := 2502) g dL_law_2502 ?_
    refine j_if_eq (tgt := 2508) (pc := 2503) g dL_law_2503 (by decide) (fun _ => ?_) (fun h9 => absurd (lw_cmp0 _) h9)
    refine j_goto (tgt := 2781) (pc := 2508) g dL_law_2508 (by decide) ?_
    refine j_sub (pc := 2781) g [2, 3, 4, 5, 6, 7] rfl ?_
    exact j_widen g (by omega) (by omega) (next σk σm1 (vp_updL fo (0 : Int32).toNatClampNeg r.toInt64) fd hR)
  · refine j_aload_n (pc := 2467) g 4 dL_law_2467 rfl ?_
    refine j_aload_n (pc := 2468) g 2 dL_law_2468 rfl ?_
    refine j_callH (pc := 2469) (na := 2) (As := [.ref (ad 0), .ref o]) (rest := []) (r := 1) (w' := ((o, .inl (t 4, 1, .inr (.inl fo))) :: (od, .inl (t 5, 1, .inr (.inr (.inr (.inl fd))))) :: (mC am t σm ++ kW aa ad t σk1 []))) g (hL_errorPosition_x1 (rs := (od, .inl (t 5, 1, .inr (.inr (.inr (.inl fd))))) :: mC am t σm) hst hf) q_t_L_errorPosition q_w_L_errorPosition q_l_L_309 q_n_L (by decide) (by decide +kernel) rfl ⟨Nat.le_of_ble_eq_true rfl, Nat.le_of_ble_eq_true rfl⟩ ⟨by omega, by omega⟩ (Nat.le_of_ble_eq_true rfl) (lw_pm_h aa ad am t σk σm _ _) (lw_pm_h aa ad am t σk1 σm _ _).symm dL_law_2469 ?_ rfl
    have hkk : k + 1 ≤ room_1.cells := by omega
    have hnn : n + 6 ≤ room_1.slots := by omega
    refine j_istore (L' := [(6, .int 1), (5, .int i), (4, .ref od), (3, .ref o), (2, .ref (am 0)), (1, .ref (ad 0)), (0, .ref b)]) (pc := 2472) g dL_law_2472 (Nat.le_of_ble_eq_true rfl) rfl ?_
    refine j_aload_n (pc := 2474) g 4 dL_law_2474 rfl ?_
    refine j_callVi (pc := 2475) (na := 0) (As := []) (rest := []) (q0 := 2) (ci := 10) (w' := ((o, .inl (t 4, 1, .inr (.inl fo))) :: (od, .inl (t 5, 1, .inr (.inr (.inr (.inl fd))))) :: (mC am t σm1 ++ kW aa ad t σk1 []))) g (cX9_errorPosition_ (rs := (o, .inl (t 4, 1, .inr (.inl fo))) :: (od, .inl (t 5, 1, .inr (.inr (.inr (.inl fd))))) :: kW aa ad t σk1 []) hm) q_i_X9_errorPosition q_s_X9_errorPosition rfl rfl rfl q_c_X9_errorPosition q_l_L_311 q_n_X9 (by decide +kernel) rfl ⟨Nat.le_of_ble_eq_true rfl, Nat.le_of_ble_eq_true rfl⟩ ⟨hkk, hnn⟩ (Nat.le_of_ble_eq_true rfl) (lw_pm_m aa ad am t σk1 σm _ _) (lw_pm_m aa ad am t σk1 σm1 _ _).symm dL_law_2475 ?_ rfl
    refine j_istore (L' := [(7, .int r), (6, .int 1), (5, .int i), (4, .ref od), (3, .ref o), (2, .ref (am 0)), (1, .ref (ad 0)), (0, .ref b)]) (pc := 2478) g dL_law_2478 (Nat.le_of_ble_eq_true rfl) rfl ?_
    refine j_aload_n (pc := 2480) g 5 dL_law_2480 rfl ?_
    refine j_callVi (pc := 2481) (na := 0) (As := []) (rest := []) (q0 := 2) (ci := 10) (w' := ((o, .inl (t 4, 1, .inr (.inl fo))) :: (od, .inl (t 5, 1, .inr (.inr (.inr (.inl fd))))) :: (mC am t σm1 ++ kW aa ad t σk1 []))) g (cX9_thrown_ (rs := (o, .inl (t 4, 1, .inr (.inl fo))) :: (od, .inl (t 5, 1, .inr (.inr (.inr (.inl fd))))) :: kW aa ad t σk1 []) rfl) q_i_X9_thrown q_s_X9_thrown rfl rfl rfl q_c_X9_thrown q_l_L_155 q_n_X9 (by decide +kernel) rfl ⟨Nat.le_of_ble_eq_true rfl, Nat.le_of_ble_eq_true rfl⟩ ⟨hkk, hnn⟩ (Nat.le_of_ble_eq_true rfl) (lw_pm_m aa ad am t σk1 σm1 _ _) (lw_pm_m aa ad am t σk1 σm1 _ _).symm dL_law_2481 ?_ rfl
    refine j_iload (pc := 2484) g 1 dL_law_2484 rfl ?_
    refine j_icmp_eq (tgt := 2491) (pc := 2486) g dL_law_2486 (by decide) (fun _ => ?_) (fun h9 => absurd h0 h9)
    refine j_iload (pc := 2491) g 1 dL_law_2491 rfl ?_
    refine j_if_ne (tgt := 2508) (pc := 2493) g dL_law_2493 (by decide) (fun _ => ?_) (fun h9 => absurd h9 (by decide))
    refine j_goto (tgt := 2781) (pc := 2508) g dL_law_2508 (by decide) ?_
    refine j_sub (pc := 2781) g [2, 3, 4, 5, 6, 7] rfl ?_
    exact j_widen g (by omega) (by omega) (next σk1 σm1 fo fd hR)
set_option maxRecDepth 100000 in
set_option maxHeartbeats 4000000 in
theorem lw_c45 {D : va_G} {t : Nat → ClassId} {aa : gx_AA} {l : Launch} {J : gx_J} {b Ln : Nat} {xs : Nat → Int32} (gl : gx_GL D t (gx_E0 aa) l room_1 cL_law RL 10 J b Ln xs) (hst : l.stackTraces = false) {k n : Nat} (hk : k + 1 ≤ room_1.cells) (hn : n + 6 ≤ room_1.slots) {i : Int32} (h1 : vp_in (i + 1) Ln) (h2 : vp_in (i + 2) Ln) (h3 : vp_in (i + 3) Ln) {ad am : Nat → Nat} {o od : Nat} {σk : CS} {σm : OS} {fo : Nat → Int64} {fd : Nat → UInt64} {R : CS → OS → Prop} (hag : Ag_failedCommand R σk σm) (next : ∀ (σk2 : CS) (σm2 : OS) (fo2 : Nat → Int64) (fd2 : Nat → UInt64), R σk2 σm2 → J (k + 1) (n + 6) ((o, .inl (t 4, 1, .inr (.inl fo2))) :: (od, .inl (t 5, 1, .inr (.inr (.inr (.inl fd2))))) :: (mC am t σm2 ++ kW aa ad t σk2 [])) 2781 [(5, .int i), (4, .ref od), (3, .ref o), (2, .ref (am 0)), (1, .ref (ad 0)), (0, .ref b)] []) : J k n ((o, .inl (t 4, 1, .inr (.inl fo))) :: (od, .inl (t 5, 1, .inr (.inr (.inr (.inl fd))))) :: (mC am t σm ++ kW aa ad t σk [])) 2511 [(5, .int i), (4, .ref od), (3, .ref o), (2, .ref (am 0)), (1, .ref (ad 0)), (0, .ref b)] [] := by
  have g := gl.g
  have hkk : k ≤ room_1.cells := by omega
  have hnn : n ≤ room_1.slots := by omega
  obtain ⟨r, σm1, hm, hag⟩ := hag
  rcases hag with ⟨hf, h0, hR⟩ | ⟨σk1, hf, h0, hR⟩
  · refine j_aload_n (pc := 2511) g 4 dL_law_2511 rfl ?_
    refine j_aload_n (pc := 2512) g 2 dL_law_2512 rfl ?_
    refine j_callH (pc := 2513) (na := 2) (As := [.ref (ad 0), .ref o]) (rest := []) (r := 0) (w' := ((o, .inl (t 4, 1, .inr (.inl (vp_updL fo (0 : Int32).toNatClampNeg r.toInt64)))) :: (od, .inl (t 5, 1, .inr (.inr (.inr (.inl fd))))) :: (mC am t σm ++ kW aa ad t σk []))) g (hL_failedCommand_ok (rs := (od, .inl (t 5, 1, .inr (.inr (.inr (.inl fd))))) :: mC am t σm) hst hf) q_t_L_failedCommand q_w_L_failedCommand q_l_L_312 q_n_L (by decide) (by decide +kernel) rfl ⟨Nat.le_of_ble_eq_true rfl, Nat.le_of_ble_eq_true rfl⟩ ⟨by omega, by omega⟩ (Nat.le_of_ble_eq_true rfl) (lw_pm_h aa ad am t σk σm _ _) (lw_pm_h aa ad am t σk σm _ _).symm dL_law_2513 ?_ rfl
    have hkk : k + 0 ≤ room_1.cells := by omega
    have hnn : n + 0 ≤ room_1.slots := by omega
    refine j_istore (L' := [(6, .int 0), (5, .int i), (4, .ref od), (3, .ref o), (2, .ref (am 0)), (1, .ref (ad 0)), (0, .ref b)]) (pc := 2516) g dL_law_2516 (Nat.le_of_ble_eq_true rfl) rfl ?_
    refine j_aload_n (pc := 2518) g 4 dL_law_2518 rfl ?_
    refine j_callVi (pc := 2519) (na := 0) (As := []) (rest := []) (q0 := 2) (ci := 10) (w' := ((o, .inl (t 4, 1, .inr (.inl (vp_updL fo (0 : Int32).toNatClampNeg r.toInt64)))) :: (od, .inl (t 5, 1, .inr (.inr (.inr (.inl fd))))) :: (mC am t σm1 ++ kW aa ad t σk []))) g (cX9_failedCommand_ (rs := (o, .inl (t 4, 1, .inr (.inl (vp_updL fo (0 : Int32).toNatClampNeg r.toInt64)))) :: (od, .inl (t 5, 1, .inr (.inr (.inr (.inl fd))))) :: kW aa ad t σk []) hm) q_i_X9_failedCommand q_s_X9_failedCommand rfl rfl rfl q_c_X9_failedCommand q_l_L_314 q_n_X9 (by decide +kernel) rfl ⟨Nat.le_of_ble_eq_true rfl, Nat.le_of_ble_eq_true rfl⟩ ⟨hkk, hnn⟩ (Nat.le_of_ble_eq_true rfl) (lw_pm_m aa ad am t σk σm _ _) (lw_pm_m aa ad am t σk σm1 _ _).symm dL_law_2519 ?_ rfl
    refine j_istore (L' := [(7, .int r), (6, .int 0), (5, .int i), (4, .ref od), (3, .ref o), (2, .ref (am 0)), (1, .ref (ad 0)), (0, .ref b)]) (pc := 2522) g dL_law_2522 (Nat.le_of_ble_eq_true rfl) rfl ?_
    refine j_aload_n (pc := 2524) g 5 dL_law_2524 rfl ?_
    refine j_callVi (pc := 2525) (na := 0) (As := []) (rest := []) (q0 := 2) (ci := 10) (w' := ((o, .inl (t 4, 1, .inr (.inl (vp_updL fo (0 : Int32).toNatClampNeg r.toInt64)))) :: (od, .inl (t 5, 1, .inr (.inr (.inr (.inl fd))))) :: (mC am t σm1 ++ kW aa ad t σk []))) g (cX9_thrown_ (rs := (o, .inl (t 4, 1, .inr (.inl (vp_updL fo (0 : Int32).toNatClampNeg r.toInt64)))) :: (od, .inl (t 5, 1, .inr (.inr (.inr (.inl fd))))) :: kW aa ad t σk []) rfl) q_i_X9_thrown q_s_X9_thrown rfl rfl rfl q_c_X9_thrown q_l_L_155 q_n_X9 (by decide +kernel) rfl ⟨Nat.le_of_ble_eq_true rfl, Nat.le_of_ble_eq_true rfl⟩ ⟨hkk, hnn⟩ (Nat.le_of_ble_eq_true rfl) (lw_pm_m aa ad am t σk σm1 _ _) (lw_pm_m aa ad am t σk σm1 _ _).symm dL_law_2525 ?_ rfl
    refine j_iload (pc := 2528) g 1 dL_law_2528 rfl ?_
    refine j_icmp_eq (tgt := 2535) (pc := 2530) g dL_law_2530 (by decide) (fun _ => ?_) (fun h9 => absurd h0 h9)
    refine j_iload (pc := 2535) g 1 dL_law_2535 rfl ?_
    refine j_if_ne (tgt := 2552) (pc := 2537) g dL_law_2537 (by decide) (fun h9 => absurd rfl h9) (fun _ => ?_)
    refine j_aload_n (pc := 2540) g 4 dL_law_2540 rfl ?_
    refine j_iconst (v := 0) (pc := 2541) g dL_law_2541 (by decide) ?_
    refine j_lald (pc := 2542) g 0 rfl (show gx_in (0 : Int32) 1 by decide) dL_law_2542 ?_
    refine j_iload (pc := 2543) g 0 dL_law_2543 rfl ?_
    refine j_i2l (pc := 2545) g dL_law_2545 ?_
    refine j_lcmp (pc := 2546) g dL_law_2546 ?_
    refine j_if_eq (tgt := 2552) (pc := 2547) g dL_law_2547 (by decide) (fun _ => ?_) (fun h9 => absurd (lw_cmp0 _) h9)
    refine j_goto (tgt := 2781) (pc := 2552) g dL_law_2552 (by decide) ?_
    refine j_sub (pc := 2781) g [2, 3, 4, 5, 6, 7] rfl ?_
    exact j_widen g (by omega) (by omega) (next σk σm1 (vp_updL fo (0 : Int32).toNatClampNeg r.toInt64) fd hR)
  · refine j_aload_n (pc := 2511) g 4 dL_law_2511 rfl ?_
    refine j_aload_n (pc := 2512) g 2 dL_law_2512 rfl ?_
    refine j_callH (pc := 2513) (na := 2) (As := [.ref (ad 0), .ref o]) (rest := []) (r := 1) (w' := ((o, .inl (t 4, 1, .inr (.inl fo))) :: (od, .inl (t 5, 1, .inr (.inr (.inr (.inl fd))))) :: (mC am t σm ++ kW aa ad t σk1 []))) g (hL_failedCommand_x1 (rs := (od, .inl (t 5, 1, .inr (.inr (.inr (.inl fd))))) :: mC am t σm) hst hf) q_t_L_failedCommand q_w_L_failedCommand q_l_L_312 q_n_L (by decide) (by decide +kernel) rfl ⟨Nat.le_of_ble_eq_true rfl, Nat.le_of_ble_eq_true rfl⟩ ⟨by omega, by omega⟩ (Nat.le_of_ble_eq_true rfl) (lw_pm_h aa ad am t σk σm _ _) (lw_pm_h aa ad am t σk1 σm _ _).symm dL_law_2513 ?_ rfl
    have hkk : k + 1 ≤ room_1.cells := by omega
    have hnn : n + 6 ≤ room_1.slots := by omega
    refine j_istore (L' := [(6, .int 1), (5, .int i), (4, .ref od), (3, .ref o), (2, .ref (am 0)), (1, .ref (ad 0)), (0, .ref b)]) (pc := 2516) g dL_law_2516 (Nat.le_of_ble_eq_true rfl) rfl ?_
    refine j_aload_n (pc := 2518) g 4 dL_law_2518 rfl ?_
    refine j_callVi (pc := 2519) (na := 0) (As := []) (rest := []) (q0 := 2) (ci := 10) (w' := ((o, .inl (t 4, 1, .inr (.inl fo))) :: (od, .inl (t 5, 1, .inr (.inr (.inr (.inl fd))))) :: (mC am t σm1 ++ kW aa ad t σk1 []))) g (cX9_failedCommand_ (rs := (o, .inl (t 4, 1, .inr (.inl fo))) :: (od, .inl (t 5, 1, .inr (.inr (.inr (.inl fd))))) :: kW aa ad t σk1 []) hm) q_i_X9_failedCommand q_s_X9_failedCommand rfl rfl rfl q_c_X9_failedCommand q_l_L_314 q_n_X9 (by decide +kernel) rfl ⟨Nat.le_of_ble_eq_true rfl, Nat.le_of_ble_eq_true rfl⟩ ⟨hkk, hnn⟩ (Nat.le_of_ble_eq_true rfl) (lw_pm_m aa ad am t σk1 σm _ _) (lw_pm_m aa ad am t σk1 σm1 _ _).symm dL_law_2519 ?_ rfl
    refine j_istore (L' := [(7, .int r), (6, .int 1), (5, .int i), (4, .ref od), (3, .ref o), (2, .ref (am 0)), (1, .ref (ad 0)), (0, .ref b)]) (pc := 2522) g dL_law_2522 (Nat.le_of_ble_eq_true rfl) rfl ?_
    refine j_aload_n (pc := 2524) g 5 dL_law_2524 rfl ?_
    refine j_callVi (pc := 2525) (na := 0) (As := []) (rest := []) (q0 := 2) (ci := 10) (w' := ((o, .inl (t 4, 1, .inr (.inl fo))) :: (od, .inl (t 5, 1, .inr (.inr (.inr (.inl fd))))) :: (mC am t σm1 ++ kW aa ad t σk1 []))) g (cX9_thrown_ (rs := (o, .inl (t 4, 1, .inr (.inl fo))) :: (od, .inl (t 5, 1, .inr (.inr (.inr (.inl fd))))) :: kW aa ad t σk1 []) rfl) q_i_X9_thrown q_s_X9_thrown rfl rfl rfl q_c_X9_thrown q_l_L_155 q_n_X9 (by decide +kernel) rfl ⟨Nat.le_of_ble_eq_true rfl, Nat.le_of_ble_eq_true rfl⟩ ⟨hkk, hnn⟩ (Nat.le_of_ble_eq_true rfl) (lw_pm_m aa ad am t σk1 σm1 _ _) (lw_pm_m aa ad am t σk1 σm1 _ _).symm dL_law_2525 ?_ rfl
    refine j_iload (pc := 2528) g 1 dL_law_2528 rfl ?_
    refine j_icmp_eq (tgt := 2535) (pc := 2530) g dL_law_2530 (by decide) (fun _ => ?_) (fun h9 => absurd h0 h9)
    refine j_iload (pc := 2535) g 1 dL_law_2535 rfl ?_
    refine j_if_ne (tgt := 2552) (pc := 2537) g dL_law_2537 (by decide) (fun _ => ?_) (fun h9 => absurd h9 (by decide))
    refine j_goto (tgt := 2781) (pc := 2552) g dL_law_2552 (by decide) ?_
    refine j_sub (pc := 2781) g [2, 3, 4, 5, 6, 7] rfl ?_
    exact j_widen g (by omega) (by omega) (next σk1 σm1 fo fd hR)
set_option maxRecDepth 100000 in
set_option maxHeartbeats 4000000 in
theorem lw_c46 {D : va_G} {t : Nat → ClassId} {aa : gx_AA} {l : Launch} {J : gx_J} {b Ln : Nat} {xs : Nat → Int32} (gl : gx_GL D t (gx_E0 aa) l room_1 cL_law RL 10 J b Ln xs) (hst : l.stackTraces = false) {k n : Nat} (hk : k + 1 ≤ room_1.cells) (hn : n + 6 ≤ room_1.slots) {i : Int32} (h1 : vp_in (i + 1) Ln) (h2 : vp_in (i + 2) Ln) (h3 : vp_in (i + 3) Ln) {ad am : Nat → Nat} {o od : Nat} {σk : CS} {σm : OS} {fo : Nat → Int64} {fd : Nat → UInt64} {R : CS → OS → Prop} (hag : Ag_writeCommand R σk σm (xs (i + 1).toNatClampNeg)) (next : ∀ (σk2 : CS) (σm2 : OS) (fo2 : Nat → Int64) (fd2 : Nat → UInt64), R σk2 σm2 → J (k + 1) (n + 6) ((o, .inl (t 4, 1, .inr (.inl fo2))) :: (od, .inl (t 5, 1, .inr (.inr (.inr (.inl fd2))))) :: (mC am t σm2 ++ kW aa ad t σk2 [])) 2781 [(5, .int i), (4, .ref od), (3, .ref o), (2, .ref (am 0)), (1, .ref (ad 0)), (0, .ref b)] []) : J k n ((o, .inl (t 4, 1, .inr (.inl fo))) :: (od, .inl (t 5, 1, .inr (.inr (.inr (.inl fd))))) :: (mC am t σm ++ kW aa ad t σk [])) 2555 [(5, .int i), (4, .ref od), (3, .ref o), (2, .ref (am 0)), (1, .ref (ad 0)), (0, .ref b)] [] := by
  have g := gl.g
  have hkk : k ≤ room_1.cells := by omega
  have hnn : n ≤ room_1.slots := by omega
  obtain ⟨r, σm1, hm, hag⟩ := hag
  rcases hag with ⟨σk1, hf, h0, hR⟩ | ⟨σk1, hf, h0, hR⟩
  · refine j_aload_n (pc := 2555) g 4 dL_law_2555 rfl ?_
    refine j_aload_n (pc := 2556) g 5 dL_law_2556 rfl ?_
    refine j_iload (pc := 2557) g 0 dL_law_2557 rfl ?_
    refine j_iconst (v := 1) (pc := 2559) g dL_law_2559 (by decide) ?_
    refine j_iadd (pc := 2560) g dL_law_2560 ?_
    refine j_sld (pc := 2561) gl h1 dL_law_2561 ?_
    refine j_aload_n (pc := 2562) g 2 dL_law_2562 rfl ?_
    refine j_callH (pc := 2563) (na := 3) (As := [.ref (ad 0), .int (xs (i + 1).toNatClampNeg), .ref o]) (rest := []) (r := 0) (w' := ((o, .inl (t 4, 1, .inr (.inl (vp_updL fo (0 : Int32).toNatClampNeg r.toInt64)))) :: (od, .inl (t 5, 1, .inr (.inr (.inr (.inl fd))))) :: (mC am t σm ++ kW aa ad t σk1 []))) g (hL_writeCommand_ok (rs := (od, .inl (t 5, 1, .inr (.inr (.inr (.inl fd))))) :: mC am t σm) hst hf) q_t_L_writeCommand q_w_L_writeCommand q_l_L_315 q_n_L (by decide) (by decide +kernel) rfl ⟨Nat.le_of_ble_eq_true rfl, Nat.le_of_ble_eq_true rfl⟩ ⟨by omega, by omega⟩ (Nat.le_of_ble_eq_true rfl) (lw_pm_h aa ad am t σk σm _ _) (lw_pm_h aa ad am t σk1 σm _ _).symm dL_law_2563 ?_ rfl
    have hkk : k + 0 ≤ room_1.cells := by omega
    have hnn : n + 0 ≤ room_1.slots := by omega
    refine j_istore (L' := [(6, .int 0), (5, .int i), (4, .ref od), (3, .ref o), (2, .ref (am 0)), (1, .ref (ad 0)), (0, .ref b)]) (pc := 2566) g dL_law_2566 (Nat.le_of_ble_eq_true rfl) rfl ?_
    refine j_aload_n (pc := 2568) g 4 dL_law_2568 rfl ?_
    refine j_aload_n (pc := 2569) g 6 dL_law_2569 rfl ?_
    refine j_iload (pc := 2570) g 1 dL_law_2570 rfl ?_
    refine j_iconst (v := 1) (pc := 2572) g dL_law_2572 (by decide) ?_
    refine j_iadd (pc := 2573) g dL_law_2573 ?_
    refine j_sld (pc := 2574) gl h1 dL_law_2574 ?_
    refine j_callVi (pc := 2575) (na := 1) (As := [.int (xs (i + 1).toNatClampNeg)]) (rest := []) (q0 := 2) (ci := 10) (w' := ((o, .inl (t 4, 1, .inr (.inl (vp_updL fo (0 : Int32).toNatClampNeg r.toInt64)))) :: (od, .inl (t 5, 1, .inr (.inr (.inr (.inl fd))))) :: (mC am t σm1 ++ kW aa ad t σk1 []))) g (cX9_writeCommand_ (rs := (o, .inl (t 4, 1, .inr (.inl (vp_updL fo (0 : Int32).toNatClampNeg r.toInt64)))) :: (od, .inl (t 5, 1, .inr (.inr (.inr (.inl fd))))) :: kW aa ad t σk1 []) hm) q_i_X9_writeCommand q_s_X9_writeCommand rfl rfl rfl q_c_X9_writeCommand q_l_L_317 q_n_X9 (by decide +kernel) rfl ⟨Nat.le_of_ble_eq_true rfl, Nat.le_of_ble_eq_true rfl⟩ ⟨hkk, hnn⟩ (Nat.le_of_ble_eq_true rfl) (lw_pm_m aa ad am t σk1 σm _ _) (lw_pm_m aa ad am t σk1 σm1 _ _).symm dL_law_2575 ?_ rfl
    refine j_istore (L' := [(7, .int r), (6, .int 0), (5, .int i), (4, .ref od), (3, .ref o), (2, .ref (am 0)), (1, .ref (ad 0)), (0, .ref b)]) (pc := 2578) g dL_law_2578 (Nat.le_of_ble_eq_true rfl) rfl ?_
    refine j_aload_n (pc := 2580) g 5 dL_law_2580 rfl ?_
    refine j_callVi (pc := 2581) (na := 0) (As := []) (rest := []) (q0 := 2) (ci := 10) (w' := ((o, .inl (t 4, 1, .inr (.inl (vp_updL fo (0 : Int32).toNatClampNeg r.toInt64)))) :: (od, .inl (t 5, 1, .inr (.inr (.inr (.inl fd))))) :: (mC am t σm1 ++ kW aa ad t σk1 []))) g (cX9_thrown_ (rs := (o, .inl (t 4, 1, .inr (.inl (vp_updL fo (0 : Int32).toNatClampNeg r.toInt64)))) :: (od, .inl (t 5, 1, .inr (.inr (.inr (.inl fd))))) :: kW aa ad t σk1 []) rfl) q_i_X9_thrown q_s_X9_thrown rfl rfl rfl q_c_X9_thrown q_l_L_155 q_n_X9 (by decide +kernel) rfl ⟨Nat.le_of_ble_eq_true rfl, Nat.le_of_ble_eq_true rfl⟩ ⟨hkk, hnn⟩ (Nat.le_of_ble_eq_true rfl) (lw_pm_m aa ad am t σk1 σm1 _ _) (lw_pm_m aa ad am t σk1 σm1 _ _).symm dL_law_2581 ?_ rfl
    refine j_iload (pc := 2584) g 1 dL_law_2584 rfl ?_
    refine j_icmp_eq (tgt := 2591) (pc := 2586) g dL_law_2586 (by decide) (fun _ => ?_) (fun h9 => absurd h0 h9)
    refine j_iload (pc := 2591) g 1 dL_law_2591 rfl ?_
    refine j_if_ne (tgt := 2608) (pc := 2593) g dL_law_2593 (by decide) (fun h9 => absurd rfl h9) (fun _ => ?_)
    refine j_aload_n (pc := 2596) g 4 dL_law_2596 rfl ?_
    refine j_iconst (v := 0) (pc := 2597) g dL_law_2597 (by decide) ?_
    refine j_lald (pc := 2598) g 0 rfl (show gx_in (0 : Int32) 1 by decide) dL_law_2598 ?_
    refine j_iload (pc := 2599) g 0 dL_law_2599 rfl ?_
    refine j_i2l (pc := 2601) g dL_law_2601 ?_
    refine j_lcmp (pc := 2602) g dL_law_2602 ?_
    refine j_if_eq (tgt := 2608) (pc := 2603) g dL_law_2603 (by decide) (fun _ => ?_) (fun h9 => absurd (lw_cmp0 _) h9)
    refine j_goto (tgt := 2781) (pc := 2608) g dL_law_2608 (by decide) ?_
    refine j_sub (pc := 2781) g [2, 3, 4, 5, 6, 7] rfl ?_
    exact j_widen g (by omega) (by omega) (next σk1 σm1 (vp_updL fo (0 : Int32).toNatClampNeg r.toInt64) fd hR)
  · refine j_aload_n (pc := 2555) g 4 dL_law_2555 rfl ?_
    refine j_aload_n (pc := 2556) g 5 dL_law_2556 rfl ?_
    refine j_iload (pc := 2557) g 0 dL_law_2557 rfl ?_
    refine j_iconst (v := 1) (pc := 2559) g dL_law_2559 (by decide) ?_
    refine j_iadd (pc := 2560) g dL_law_2560 ?_
    refine j_sld (pc := 2561) gl h1 dL_law_2561 ?_
    refine j_aload_n (pc := 2562) g 2 dL_law_2562 rfl ?_
    refine j_callH (pc := 2563) (na := 3) (As := [.ref (ad 0), .int (xs (i + 1).toNatClampNeg), .ref o]) (rest := []) (r := 1) (w' := ((o, .inl (t 4, 1, .inr (.inl fo))) :: (od, .inl (t 5, 1, .inr (.inr (.inr (.inl fd))))) :: (mC am t σm ++ kW aa ad t σk1 []))) g (hL_writeCommand_x1 (rs := (od, .inl (t 5, 1, .inr (.inr (.inr (.inl fd))))) :: mC am t σm) hst hf) q_t_L_writeCommand q_w_L_writeCommand q_l_L_315 q_n_L (by decide) (by decide +kernel) rfl ⟨Nat.le_of_ble_eq_true rfl, Nat.le_of_ble_eq_true rfl⟩ ⟨by omega, by omega⟩ (Nat.le_of_ble_eq_true rfl) (lw_pm_h aa ad am t σk σm _ _) (lw_pm_h aa ad am t σk1 σm _ _).symm dL_law_2563 ?_ rfl
    have hkk : k + 1 ≤ room_1.cells := by omega
    have hnn : n + 6 ≤ room_1.slots := by omega
    refine j_istore (L' := [(6, .int 1), (5, .int i), (4, .ref od), (3, .ref o), (2, .ref (am 0)), (1, .ref (ad 0)), (0, .ref b)]) (pc := 2566) g dL_law_2566 (Nat.le_of_ble_eq_true rfl) rfl ?_
    refine j_aload_n (pc := 2568) g 4 dL_law_2568 rfl ?_
    refine j_aload_n (pc := 2569) g 6 dL_law_2569 rfl ?_
    refine j_iload (pc := 2570) g 1 dL_law_2570 rfl ?_
    refine j_iconst (v := 1) (pc := 2572) g dL_law_2572 (by decide) ?_
    refine j_iadd (pc := 2573) g dL_law_2573 ?_
    refine j_sld (pc := 2574) gl h1 dL_law_2574 ?_
    refine j_callVi (pc := 2575) (na := 1) (As := [.int (xs (i + 1).toNatClampNeg)]) (rest := []) (q0 := 2) (ci := 10) (w' := ((o, .inl (t 4, 1, .inr (.inl fo))) :: (od, .inl (t 5, 1, .inr (.inr (.inr (.inl fd))))) :: (mC am t σm1 ++ kW aa ad t σk1 []))) g (cX9_writeCommand_ (rs := (o, .inl (t 4, 1, .inr (.inl fo))) :: (od, .inl (t 5, 1, .inr (.inr (.inr (.inl fd))))) :: kW aa ad t σk1 []) hm) q_i_X9_writeCommand q_s_X9_writeCommand rfl rfl rfl q_c_X9_writeCommand q_l_L_317 q_n_X9 (by decide +kernel) rfl ⟨Nat.le_of_ble_eq_true rfl, Nat.le_of_ble_eq_true rfl⟩ ⟨hkk, hnn⟩ (Nat.le_of_ble_eq_true rfl) (lw_pm_m aa ad am t σk1 σm _ _) (lw_pm_m aa ad am t σk1 σm1 _ _).symm dL_law_2575 ?_ rfl
    refine j_istore (L' := [(7, .int r), (6, .int 1), (5, .int i), (4, .ref od), (3, .ref o), (2, .ref (am 0)), (1, .ref (ad 0)), (0, .ref b)]) (pc := 2578) g dL_law_2578 (Nat.le_of_ble_eq_true rfl) rfl ?_
    refine j_aload_n (pc := 2580) g 5 dL_law_2580 rfl ?_
    refine j_callVi (pc := 2581) (na := 0) (As := []) (rest := []) (q0 := 2) (ci := 10) (w' := ((o, .inl (t 4, 1, .inr (.inl fo))) :: (od, .inl (t 5, 1, .inr (.inr (.inr (.inl fd))))) :: (mC am t σm1 ++ kW aa ad t σk1 []))) g (cX9_thrown_ (rs := (o, .inl (t 4, 1, .inr (.inl fo))) :: (od, .inl (t 5, 1, .inr (.inr (.inr (.inl fd))))) :: kW aa ad t σk1 []) rfl) q_i_X9_thrown q_s_X9_thrown rfl rfl rfl q_c_X9_thrown q_l_L_155 q_n_X9 (by decide +kernel) rfl ⟨Nat.le_of_ble_eq_true rfl, Nat.le_of_ble_eq_true rfl⟩ ⟨hkk, hnn⟩ (Nat.le_of_ble_eq_true rfl) (lw_pm_m aa ad am t σk1 σm1 _ _) (lw_pm_m aa ad am t σk1 σm1 _ _).symm dL_law_2581 ?_ rfl
    refine j_iload (pc := 2584) g 1 dL_law_2584 rfl ?_
    refine j_icmp_eq (tgt := 2591) (pc := 2586) g dL_law_2586 (by decide) (fun _ => ?_) (fun h9 => absurd h0 h9)
    refine j_iload (pc := 2591) g 1 dL_law_2591 rfl ?_
    refine j_if_ne (tgt := 2608) (pc := 2593) g dL_law_2593 (by decide) (fun _ => ?_) (fun h9 => absurd h9 (by decide))
    refine j_goto (tgt := 2781) (pc := 2608) g dL_law_2608 (by decide) ?_
    refine j_sub (pc := 2781) g [2, 3, 4, 5, 6, 7] rfl ?_
    exact j_widen g (by omega) (by omega) (next σk1 σm1 fo fd hR)
set_option maxRecDepth 100000 in
set_option maxHeartbeats 4000000 in
theorem lw_c47 {D : va_G} {t : Nat → ClassId} {aa : gx_AA} {l : Launch} {J : gx_J} {b Ln : Nat} {xs : Nat → Int32} (gl : gx_GL D t (gx_E0 aa) l room_1 cL_law RL 10 J b Ln xs) (hst : l.stackTraces = false) {k n : Nat} (hk : k + 1 ≤ room_1.cells) (hn : n + 6 ≤ room_1.slots) {i : Int32} (h1 : vp_in (i + 1) Ln) (h2 : vp_in (i + 2) Ln) (h3 : vp_in (i + 3) Ln) {ad am : Nat → Nat} {o od : Nat} {σk : CS} {σm : OS} {fo : Nat → Int64} {fd : Nat → UInt64} {R : CS → OS → Prop} (hag : Ag_outputChar R σk σm (xs (i + 1).toNatClampNeg)) (next : ∀ (σk2 : CS) (σm2 : OS) (fo2 : Nat → Int64) (fd2 : Nat → UInt64), R σk2 σm2 → J (k + 1) (n + 6) ((o, .inl (t 4, 1, .inr (.inl fo2))) :: (od, .inl (t 5, 1, .inr (.inr (.inr (.inl fd2))))) :: (mC am t σm2 ++ kW aa ad t σk2 [])) 2781 [(5, .int i), (4, .ref od), (3, .ref o), (2, .ref (am 0)), (1, .ref (ad 0)), (0, .ref b)] []) : J k n ((o, .inl (t 4, 1, .inr (.inl fo))) :: (od, .inl (t 5, 1, .inr (.inr (.inr (.inl fd))))) :: (mC am t σm ++ kW aa ad t σk [])) 2611 [(5, .int i), (4, .ref od), (3, .ref o), (2, .ref (am 0)), (1, .ref (ad 0)), (0, .ref b)] [] := by
  have g := gl.g
  have hkk : k ≤ room_1.cells := by omega
  have hnn : n ≤ room_1.slots := by omega
  obtain ⟨r, σm1, hm, hag⟩ := hag
  rcases hag with ⟨hf, h0, hR⟩ | ⟨σk1, hf, h0, hR⟩
  · refine j_aload_n (pc := 2611) g 4 dL_law_2611 rfl ?_
    refine j_aload_n (pc := 2612) g 5 dL_law_2612 rfl ?_
    refine j_iload (pc := 2613) g 0 dL_law_2613 rfl ?_
    refine j_iconst (v := 1) (pc := 2615) g dL_law_2615 (by decide) ?_
    refine j_iadd (pc := 2616) g dL_law_2616 ?_
    refine j_sld (pc := 2617) gl h1 dL_law_2617 ?_
    refine j_aload_n (pc := 2618) g 2 dL_law_2618 rfl ?_
    refine j_callH (pc := 2619) (na := 3) (As := [.ref (ad 0), .int (xs (i + 1).toNatClampNeg), .ref o]) (rest := []) (r := 0) (w' := ((o, .inl (t 4, 1, .inr (.inl (vp_updL fo (0 : Int32).toNatClampNeg r.toInt64)))) :: (od, .inl (t 5, 1, .inr (.inr (.inr (.inl fd))))) :: (mC am t σm ++ kW aa ad t σk []))) g (hL_outputChar_ok (rs := (od, .inl (t 5, 1, .inr (.inr (.inr (.inl fd))))) :: mC am t σm) hst hf) q_t_L_outputChar q_w_L_outputChar q_l_L_318 q_n_L (by decide) (by decide +kernel) rfl ⟨Nat.le_of_ble_eq_true rfl, Nat.le_of_ble_eq_true rfl⟩ ⟨by omega, by omega⟩ (Nat.le_of_ble_eq_true rfl) (lw_pm_h aa ad am t σk σm _ _) (lw_pm_h aa ad am t σk σm _ _).symm dL_law_2619 ?_ rfl
    have hkk : k + 0 ≤ room_1.cells := by omega
    have hnn : n + 0 ≤ room_1.slots := by omega
    refine j_istore (L' := [(6, .int 0), (5, .int i), (4, .ref od), (3, .ref o), (2, .ref (am 0)), (1, .ref (ad 0)), (0, .ref b)]) (pc := 2622) g dL_law_2622 (Nat.le_of_ble_eq_true rfl) rfl ?_
    refine j_aload_n (pc := 2624) g 4 dL_law_2624 rfl ?_
    refine j_aload_n (pc := 2625) g 6 dL_law_2625 rfl ?_
    refine j_iload (pc := 2626) g 1 dL_law_2626 rfl ?_
    refine j_iconst (v := 1) (pc := 2628) g dL_law_2628 (by decide) ?_
    refine j_iadd (pc := 2629) g dL_law_2629 ?_
    refine j_sld (pc := 2630) gl h1 dL_law_2630 ?_
    refine j_callVi (pc := 2631) (na := 1) (As := [.int (xs (i + 1).toNatClampNeg)]) (rest := []) (q0 := 2) (ci := 10) (w' := ((o, .inl (t 4, 1, .inr (.inl (vp_updL fo (0 : Int32).toNatClampNeg r.toInt64)))) :: (od, .inl (t 5, 1, .inr (.inr (.inr (.inl fd))))) :: (mC am t σm1 ++ kW aa ad t σk []))) g (cX9_outputChar_ (rs := (o, .inl (t 4, 1, .inr (.inl (vp_updL fo (0 : Int32).toNatClampNeg r.toInt64)))) :: (od, .inl (t 5, 1, .inr (.inr (.inr (.inl fd))))) :: kW aa ad t σk []) hm) q_i_X9_outputChar q_s_X9_outputChar rfl rfl rfl q_c_X9_outputChar q_l_L_320 q_n_X9 (by decide +kernel) rfl ⟨Nat.le_of_ble_eq_true rfl, Nat.le_of_ble_eq_true rfl⟩ ⟨hkk, hnn⟩ (Nat.le_of_ble_eq_true rfl) (lw_pm_m aa ad am t σk σm _ _) (lw_pm_m aa ad am t σk σm1 _ _).symm dL_law_2631 ?_ rfl
    refine j_istore (L' := [(7, .int r), (6, .int 0), (5, .int i), (4, .ref od), (3, .ref o), (2, .ref (am 0)), (1, .ref (ad 0)), (0, .ref b)]) (pc := 2634) g dL_law_2634 (Nat.le_of_ble_eq_true rfl) rfl ?_
    refine j_aload_n (pc := 2636) g 5 dL_law_2636 rfl ?_
    refine j_callVi (pc := 2637) (na := 0) (As := []) (rest := []) (q0 := 2) (ci := 10) (w' := ((o, .inl (t 4, 1, .inr (.inl (vp_updL fo (0 : Int32).toNatClampNeg r.toInt64)))) :: (od, .inl (t 5, 1, .inr (.inr (.inr (.inl fd))))) :: (mC am t σm1 ++ kW aa ad t σk []))) g (cX9_thrown_ (rs := (o, .inl (t 4, 1, .inr (.inl (vp_updL fo (0 : Int32).toNatClampNeg r.toInt64)))) :: (od, .inl (t 5, 1, .inr (.inr (.inr (.inl fd))))) :: kW aa ad t σk []) rfl) q_i_X9_thrown q_s_X9_thrown rfl rfl rfl q_c_X9_thrown q_l_L_155 q_n_X9 (by decide +kernel) rfl ⟨Nat.le_of_ble_eq_true rfl, Nat.le_of_ble_eq_true rfl⟩ ⟨hkk, hnn⟩ (Nat.le_of_ble_eq_true rfl) (lw_pm_m aa ad am t σk σm1 _ _) (lw_pm_m aa ad am t σk σm1 _ _).symm dL_law_2637 ?_ rfl
    refine j_iload (pc := 2640) g 1 dL_law_2640 rfl ?_
    refine j_icmp_eq (tgt := 2647) (pc := 2642) g dL_law_2642 (by decide) (fun _ => ?_) (fun h9 => absurd h0 h9)
    refine j_iload (pc := 2647) g 1 dL_law_2647 rfl ?_
    refine j_if_ne (tgt := 2664) (pc := 2649) g dL_law_2649 (by decide) (fun h9 => absurd rfl h9) (fun _ => ?_)
    refine j_aload_n (pc := 2652) g 4 dL_law_2652 rfl ?_
    refine j_iconst (v := 0) (pc := 2653) g dL_law_2653 (by decide) ?_
    refine j_lald (pc := 2654) g 0 rfl (show gx_in (0 : Int32) 1 by decide) dL_law_2654 ?_
    refine j_iload (pc := 2655) g 0 dL_law_2655 rfl ?_
    refine j_i2l (pc := 2657) g dL_law_2657 ?_
    refine j_lcmp (pc := 2658) g dL_law_2658 ?_
    refine j_if_eq (tgt := 2664) (pc := 2659) g dL_law_2659 (by decide) (fun _ => ?_) (fun h9 => absurd (lw_cmp0 _) h9)
    refine j_goto (tgt := 2781) (pc := 2664) g dL_law_2664 (by decide) ?_
    refine j_sub (pc := 2781) g [2, 3, 4, 5, 6, 7] rfl ?_
    exact j_widen g (by omega) (by omega) (next σk σm1 (vp_updL fo (0 : Int32).toNatClampNeg r.toInt64) fd hR)
  · refine j_aload_n (pc := 2611) g 4 dL_law_2611 rfl ?_
    refine j_aload_n (pc := 2612) g 5 dL_law_2612 rfl ?_
    refine j_iload (pc := 2613) g 0 dL_law_2613 rfl ?_
    refine j_iconst (v := 1) (pc := 2615) g dL_law_2615 (by decide) ?_
    refine j_iadd (pc := 2616) g dL_law_2616 ?_
    refine j_sld (pc := 2617) gl h1 dL_law_2617 ?_
    refine j_aload_n (pc := 2618) g 2 dL_law_2618 rfl ?_
    refine j_callH (pc := 2619) (na := 3) (As := [.ref (ad 0), .int (xs (i + 1).toNatClampNeg), .ref o]) (rest := []) (r := 1) (w' := ((o, .inl (t 4, 1, .inr (.inl fo))) :: (od, .inl (t 5, 1, .inr (.inr (.inr (.inl fd))))) :: (mC am t σm ++ kW aa ad t σk1 []))) g (hL_outputChar_x1 (rs := (od, .inl (t 5, 1, .inr (.inr (.inr (.inl fd))))) :: mC am t σm) hst hf) q_t_L_outputChar q_w_L_outputChar q_l_L_318 q_n_L (by decide) (by decide +kernel) rfl ⟨Nat.le_of_ble_eq_true rfl, Nat.le_of_ble_eq_true rfl⟩ ⟨by omega, by omega⟩ (Nat.le_of_ble_eq_true rfl) (lw_pm_h aa ad am t σk σm _ _) (lw_pm_h aa ad am t σk1 σm _ _).symm dL_law_2619 ?_ rfl
    have hkk : k + 1 ≤ room_1.cells := by omega
    have hnn : n + 6 ≤ room_1.slots := by omega
    refine j_istore (L' := [(6, .int 1), (5, .int i), (4, .ref od), (3, .ref o), (2, .ref (am 0)), (1, .ref (ad 0)), (0, .ref b)]) (pc := 2622) g dL_law_2622 (Nat.le_of_ble_eq_true rfl) rfl ?_
    refine j_aload_n (pc := 2624) g 4 dL_law_2624 rfl ?_
    refine j_aload_n (pc := 2625) g 6 dL_law_2625 rfl ?_
    refine j_iload (pc := 2626) g 1 dL_law_2626 rfl ?_
    refine j_iconst (v := 1) (pc := 2628) g dL_law_2628 (by decide) ?_
    refine j_iadd (pc := 2629) g dL_law_2629 ?_
    refine j_sld (pc := 2630) gl h1 dL_law_2630 ?_
    refine j_callVi (pc := 2631) (na := 1) (As := [.int (xs (i + 1).toNatClampNeg)]) (rest := []) (q0 := 2) (ci := 10) (w' := ((o, .inl (t 4, 1, .inr (.inl fo))) :: (od, .inl (t 5, 1, .inr (.inr (.inr (.inl fd))))) :: (mC am t σm1 ++ kW aa ad t σk1 []))) g (cX9_outputChar_ (rs := (o, .inl (t 4, 1, .inr (.inl fo))) :: (od, .inl (t 5, 1, .inr (.inr (.inr (.inl fd))))) :: kW aa ad t σk1 []) hm) q_i_X9_outputChar q_s_X9_outputChar rfl rfl rfl q_c_X9_outputChar q_l_L_320 q_n_X9 (by decide +kernel) rfl ⟨Nat.le_of_ble_eq_true rfl, Nat.le_of_ble_eq_true rfl⟩ ⟨hkk, hnn⟩ (Nat.le_of_ble_eq_true rfl) (lw_pm_m aa ad am t σk1 σm _ _) (lw_pm_m aa ad am t σk1 σm1 _ _).symm dL_law_2631 ?_ rfl
    refine j_istore (L' := [(7, .int r), (6, .int 1), (5, .int i), (4, .ref od), (3, .ref o), (2, .ref (am 0)), (1, .ref (ad 0)), (0, .ref b)]) (pc := 2634) g dL_law_2634 (Nat.le_of_ble_eq_true rfl) rfl ?_
    refine j_aload_n (pc := 2636) g 5 dL_law_2636 rfl ?_
    refine j_callVi (pc := 2637) (na := 0) (As := []) (rest := []) (q0 := 2) (ci := 10) (w' := ((o, .inl (t 4, 1, .inr (.inl fo))) :: (od, .inl (t 5, 1, .inr (.inr (.inr (.inl fd))))) :: (mC am t σm1 ++ kW aa ad t σk1 []))) g (cX9_thrown_ (rs := (o, .inl (t 4, 1, .inr (.inl fo))) :: (od, .inl (t 5, 1, .inr (.inr (.inr (.inl fd))))) :: kW aa ad t σk1 []) rfl) q_i_X9_thrown q_s_X9_thrown rfl rfl rfl q_c_X9_thrown q_l_L_155 q_n_X9 (by decide +kernel) rfl ⟨Nat.le_of_ble_eq_true rfl, Nat.le_of_ble_eq_true rfl⟩ ⟨hkk, hnn⟩ (Nat.le_of_ble_eq_true rfl) (lw_pm_m aa ad am t σk1 σm1 _ _) (lw_pm_m aa ad am t σk1 σm1 _ _).symm dL_law_2637 ?_ rfl
    refine j_iload (pc := 2640) g 1 dL_law_2640 rfl ?_
    refine j_icmp_eq (tgt := 2647) (pc := 2642) g dL_law_2642 (by decide) (fun _ => ?_) (fun h9 => absurd h0 h9)
    refine j_iload (pc := 2647) g 1 dL_law_2647 rfl ?_
    refine j_if_ne (tgt := 2664) (pc := 2649) g dL_law_2649 (by decide) (fun _ => ?_) (fun h9 => absurd h9 (by decide))
    refine j_goto (tgt := 2781) (pc := 2664) g dL_law_2664 (by decide) ?_
    refine j_sub (pc := 2781) g [2, 3, 4, 5, 6, 7] rfl ?_
    exact j_widen g (by omega) (by omega) (next σk1 σm1 fo fd hR)
