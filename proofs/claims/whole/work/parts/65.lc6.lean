set_option maxRecDepth 100000 in
set_option maxHeartbeats 4000000 in
theorem lw_c48 {D : va_G} {t : Nat → ClassId} {aa : gx_AA} {l : Launch} {J : gx_J} {b Ln : Nat} {xs : Nat → Int32} (gl : gx_GL D t (gx_E0 aa) l room_1 cL_law RL 10 J b Ln xs) (hst : l.stackTraces = false) {k n : Nat} (hk : k + 1 ≤ room_1.cells) (hn : n + 6 ≤ room_1.slots) {i : Int32} (h1 : vp_in (i + 1) Ln) (h2 : vp_in (i + 2) Ln) (h3 : vp_in (i + 3) Ln) {ad am : Nat → Nat} {o od : Nat} {σk : CS} {σm : OS} {fo : Nat → Int64} {fd : Nat → UInt64} {R : CS → OS → Prop} (hag : Ag_undoCount R σk σm) (next : ∀ (σk2 : CS) (σm2 : OS) (fo2 : Nat → Int64) (fd2 : Nat → UInt64), R σk2 σm2 → J (k + 1) (n + 6) ((o, .inl (t 4, 1, .inr (.inl fo2))) :: (od, .inl (t 5, 1, .inr (.inr (.inr (.inl fd2))))) :: (mC am t σm2 ++ kW aa ad t σk2 [])) 2781 [(5, .int i), (4, .ref od), (3, .ref o), (2, .ref (am 0)), (1, .ref (ad 0)), (0, .ref b)] []) : J k n ((o, .inl (t 4, 1, .inr (.inl fo))) :: (od, .inl (t 5, 1, .inr (.inr (.inr (.inl fd))))) :: (mC am t σm ++ kW aa ad t σk [])) 2667 [(5, .int i), (4, .ref od), (3, .ref o), (2, .ref (am 0)), (1, .ref (ad 0)), (0, .ref b)] [] := by
  have g := gl.g
  have hkk : k ≤ room_1.cells := by omega
  have hnn : n ≤ room_1.slots := by omega
  obtain ⟨r, σm1, hm, hf, hR⟩ := hag
  refine j_aload_n (pc := 2667) g 4 dL_law_2667 rfl ?_
  refine j_callVi (pc := 2668) (na := 0) (As := []) (rest := []) (q0 := 10) (ci := 9) (w' := ((o, .inl (t 4, 1, .inr (.inl fo))) :: (od, .inl (t 5, 1, .inr (.inr (.inr (.inl fd))))) :: (mC am t σm ++ kW aa ad t σk []))) g (cX8_undoCount_ (rs := (o, .inl (t 4, 1, .inr (.inl fo))) :: (od, .inl (t 5, 1, .inr (.inr (.inr (.inl fd))))) :: mC am t σm) hf) q_i_X8_undoCount q_s_X8_undoCount rfl rfl (lw_at9 aa ad am t σk σm _ _) q_c_X8_undoCount q_l_L_321 q_n_X8 (by decide +kernel) rfl ⟨Nat.le_of_ble_eq_true rfl, Nat.le_of_ble_eq_true rfl⟩ ⟨hkk, hnn⟩ (Nat.le_of_ble_eq_true rfl) (lw_pm_k aa ad am t σk σm _ _) (lw_pm_k aa ad am t σk σm _ _).symm dL_law_2668 ?_ rfl
  refine j_aload_n (pc := 2671) g 3 dL_law_2671 rfl ?_
  refine j_callVi (pc := 2672) (na := 0) (As := []) (rest := [.int r]) (q0 := 2) (ci := 10) (w' := ((o, .inl (t 4, 1, .inr (.inl fo))) :: (od, .inl (t 5, 1, .inr (.inr (.inr (.inl fd))))) :: (mC am t σm1 ++ kW aa ad t σk []))) g (cX9_undoCount_ (rs := (o, .inl (t 4, 1, .inr (.inl fo))) :: (od, .inl (t 5, 1, .inr (.inr (.inr (.inl fd))))) :: kW aa ad t σk []) hm) q_i_X9_undoCount q_s_X9_undoCount rfl rfl rfl q_c_X9_undoCount q_l_L_324 q_n_X9 (by decide +kernel) rfl ⟨Nat.le_of_ble_eq_true rfl, Nat.le_of_ble_eq_true rfl⟩ ⟨hkk, hnn⟩ (Nat.le_of_ble_eq_true rfl) (lw_pm_m aa ad am t σk σm _ _) (lw_pm_m aa ad am t σk σm1 _ _).symm dL_law_2672 ?_ rfl
  refine j_icmp_eq (tgt := 2781) (pc := 2675) g dL_law_2675 (by decide) (fun _ => ?_) (fun h9 => absurd rfl h9)
  refine j_sub (pc := 2781) g [0, 1, 2, 3, 4, 5] rfl ?_
  exact j_widen g (by omega) (by omega) (next σk σm1 fo fd hR)
set_option maxRecDepth 100000 in
set_option maxHeartbeats 4000000 in
theorem lw_c49 {D : va_G} {t : Nat → ClassId} {aa : gx_AA} {l : Launch} {J : gx_J} {b Ln : Nat} {xs : Nat → Int32} (gl : gx_GL D t (gx_E0 aa) l room_1 cL_law RL 10 J b Ln xs) (hst : l.stackTraces = false) {k n : Nat} (hk : k + 1 ≤ room_1.cells) (hn : n + 6 ≤ room_1.slots) {i : Int32} (h1 : vp_in (i + 1) Ln) (h2 : vp_in (i + 2) Ln) (h3 : vp_in (i + 3) Ln) {ad am : Nat → Nat} {o od : Nat} {σk : CS} {σm : OS} {fo : Nat → Int64} {fd : Nat → UInt64} {R : CS → OS → Prop} (hag : Ag_undo R σk σm) (next : ∀ (σk2 : CS) (σm2 : OS) (fo2 : Nat → Int64) (fd2 : Nat → UInt64), R σk2 σm2 → J (k + 1) (n + 6) ((o, .inl (t 4, 1, .inr (.inl fo2))) :: (od, .inl (t 5, 1, .inr (.inr (.inr (.inl fd2))))) :: (mC am t σm2 ++ kW aa ad t σk2 [])) 2781 [(5, .int i), (4, .ref od), (3, .ref o), (2, .ref (am 0)), (1, .ref (ad 0)), (0, .ref b)] []) : J k n ((o, .inl (t 4, 1, .inr (.inl fo))) :: (od, .inl (t 5, 1, .inr (.inr (.inr (.inl fd))))) :: (mC am t σm ++ kW aa ad t σk [])) 2680 [(5, .int i), (4, .ref od), (3, .ref o), (2, .ref (am 0)), (1, .ref (ad 0)), (0, .ref b)] [] := by
  have g := gl.g
  have hkk : k ≤ room_1.cells := by omega
  have hnn : n ≤ room_1.slots := by omega
  obtain ⟨r, σm1, hm, hag⟩ := hag
  rcases hag with ⟨σk1, hf, h0, hR⟩ | ⟨σk1, hf, h0, hR⟩
  · refine j_aload_n (pc := 2680) g 4 dL_law_2680 rfl ?_
    refine j_aload_n (pc := 2681) g 2 dL_law_2681 rfl ?_
    refine j_callH (pc := 2682) (na := 2) (As := [.ref (ad 0), .ref o]) (rest := []) (r := 0) (w' := ((o, .inl (t 4, 1, .inr (.inl (vp_updL fo (0 : Int32).toNatClampNeg r.toInt64)))) :: (od, .inl (t 5, 1, .inr (.inr (.inr (.inl fd))))) :: (mC am t σm ++ kW aa ad t σk1 []))) g (hL_undo_ok (rs := (od, .inl (t 5, 1, .inr (.inr (.inr (.inl fd))))) :: mC am t σm) hst hf) q_t_L_undo q_w_L_undo q_l_L_325 q_n_L (by decide) (by decide +kernel) rfl ⟨Nat.le_of_ble_eq_true rfl, Nat.le_of_ble_eq_true rfl⟩ ⟨by omega, by omega⟩ (Nat.le_of_ble_eq_true rfl) (lw_pm_h aa ad am t σk σm _ _) (lw_pm_h aa ad am t σk1 σm _ _).symm dL_law_2682 ?_ rfl
    have hkk : k + 0 ≤ room_1.cells := by omega
    have hnn : n + 0 ≤ room_1.slots := by omega
    refine j_istore (L' := [(6, .int 0), (5, .int i), (4, .ref od), (3, .ref o), (2, .ref (am 0)), (1, .ref (ad 0)), (0, .ref b)]) (pc := 2685) g dL_law_2685 (Nat.le_of_ble_eq_true rfl) rfl ?_
    refine j_aload_n (pc := 2687) g 4 dL_law_2687 rfl ?_
    refine j_callVi (pc := 2688) (na := 0) (As := []) (rest := []) (q0 := 2) (ci := 10) (w' := ((o, .inl (t 4, 1, .inr (.inl (vp_updL fo (0 : Int32).toNatClampNeg r.toInt64)))) :: (od, .inl (t 5, 1, .inr (.inr (.inr (.inl fd))))) :: (mC am t σm1 ++ kW aa ad t σk1 []))) g (cX9_undo_ (rs := (o, .inl (t 4, 1, .inr (.inl (vp_updL fo (0 : Int32).toNatClampNeg r.toInt64)))) :: (od, .inl (t 5, 1, .inr (.inr (.inr (.inl fd))))) :: kW aa ad t σk1 []) hm) q_i_X9_undo q_s_X9_undo rfl rfl rfl q_c_X9_undo q_l_L_327 q_n_X9 (by decide +kernel) rfl ⟨Nat.le_of_ble_eq_true rfl, Nat.le_of_ble_eq_true rfl⟩ ⟨hkk, hnn⟩ (Nat.le_of_ble_eq_true rfl) (lw_pm_m aa ad am t σk1 σm _ _) (lw_pm_m aa ad am t σk1 σm1 _ _).symm dL_law_2688 ?_ rfl
    refine j_istore (L' := [(7, .int r), (6, .int 0), (5, .int i), (4, .ref od), (3, .ref o), (2, .ref (am 0)), (1, .ref (ad 0)), (0, .ref b)]) (pc := 2691) g dL_law_2691 (Nat.le_of_ble_eq_true rfl) rfl ?_
    refine j_aload_n (pc := 2693) g 5 dL_law_2693 rfl ?_
    refine j_callVi (pc := 2694) (na := 0) (As := []) (rest := []) (q0 := 2) (ci := 10) (w' := ((o, .inl (t 4, 1, .inr (.inl (vp_updL fo (0 : Int32).toNatClampNeg r.toInt64)))) :: (od, .inl (t 5, 1, .inr (.inr (.inr (.inl fd))))) :: (mC am t σm1 ++ kW aa ad t σk1 []))) g (cX9_thrown_ (rs := (o, .inl (t 4, 1, .inr (.inl (vp_updL fo (0 : Int32).toNatClampNeg r.toInt64)))) :: (od, .inl (t 5, 1, .inr (.inr (.inr (.inl fd))))) :: kW aa ad t σk1 []) rfl) q_i_X9_thrown q_s_X9_thrown rfl rfl rfl q_c_X9_thrown q_l_L_155 q_n_X9 (by decide +kernel) rfl ⟨Nat.le_of_ble_eq_true rfl, Nat.le_of_ble_eq_true rfl⟩ ⟨hkk, hnn⟩ (Nat.le_of_ble_eq_true rfl) (lw_pm_m aa ad am t σk1 σm1 _ _) (lw_pm_m aa ad am t σk1 σm1 _ _).symm dL_law_2694 ?_ rfl
    refine j_iload (pc := 2697) g 1 dL_law_2697 rfl ?_
    refine j_icmp_eq (tgt := 2704) (pc := 2699) g dL_law_2699 (by decide) (fun _ => ?_) (fun h9 => absurd h0 h9)
    refine j_iload (pc := 2704) g 1 dL_law_2704 rfl ?_
    refine j_if_ne (tgt := 2721) (pc := 2706) g dL_law_2706 (by decide) (fun h9 => absurd rfl h9) (fun _ => ?_)
    refine j_aload_n (pc := 2709) g 4 dL_law_2709 rfl ?_
    refine j_iconst (v := 0) (pc := 2710) g dL_law_2710 (by decide) ?_
    refine j_lald (pc := 2711) g 0 rfl (show gx_in (0 : Int32) 1 by decide) dL_law_2711 ?_
    refine j_iload (pc := 2712) g 0 dL_law_2712 rfl ?_
    refine j_i2l (pc := 2714) g dL_law_2714 ?_
    refine j_lcmp (pc := 2715) g dL_law_2715 ?_
    refine j_if_eq (tgt := 2721) (pc := 2716) g dL_law_2716 (by decide) (fun _ => ?_) (fun h9 => absurd (lw_cmp0 _) h9)
    refine j_goto (tgt := 2781) (pc := 2721) g dL_law_2721 (by decide) ?_
    refine j_sub (pc := 2781) g [2, 3, 4, 5, 6, 7] rfl ?_
    exact j_widen g (by omega) (by omega) (next σk1 σm1 (vp_updL fo (0 : Int32).toNatClampNeg r.toInt64) fd hR)
  · refine j_aload_n (pc := 2680) g 4 dL_law_2680 rfl ?_
    refine j_aload_n (pc := 2681) g 2 dL_law_2681 rfl ?_
    refine j_callH (pc := 2682) (na := 2) (As := [.ref (ad 0), .ref o]) (rest := []) (r := 1) (w' := ((o, .inl (t 4, 1, .inr (.inl fo))) :: (od, .inl (t 5, 1, .inr (.inr (.inr (.inl fd))))) :: (mC am t σm ++ kW aa ad t σk1 []))) g (hL_undo_x1 (rs := (od, .inl (t 5, 1, .inr (.inr (.inr (.inl fd))))) :: mC am t σm) hst hf) q_t_L_undo q_w_L_undo q_l_L_325 q_n_L (by decide) (by decide +kernel) rfl ⟨Nat.le_of_ble_eq_true rfl, Nat.le_of_ble_eq_true rfl⟩ ⟨by omega, by omega⟩ (Nat.le_of_ble_eq_true rfl) (lw_pm_h aa ad am t σk σm _ _) (lw_pm_h aa ad am t σk1 σm _ _).symm dL_law_2682 ?_ rfl
    have hkk : k + 1 ≤ room_1.cells := by omega
    have hnn : n + 6 ≤ room_1.slots := by omega
    refine j_istore (L' := [(6, .int 1), (5, .int i), (4, .ref od), (3, .ref o), (2, .ref (am 0)), (1, .ref (ad 0)), (0, .ref b)]) (pc := 2685) g dL_law_2685 (Nat.le_of_ble_eq_true rfl) rfl ?_
    refine j_aload_n (pc := 2687) g 4 dL_law_2687 rfl ?_
    refine j_callVi (pc := 2688) (na := 0) (As := []) (rest := []) (q0 := 2) (ci := 10) (w' := ((o, .inl (t 4, 1, .inr (.inl fo))) :: (od, .inl (t 5, 1, .inr (.inr (.inr (.inl fd))))) :: (mC am t σm1 ++ kW aa ad t σk1 []))) g (cX9_undo_ (rs := (o, .inl (t 4, 1, .inr (.inl fo))) :: (od, .inl (t 5, 1, .inr (.inr (.inr (.inl fd))))) :: kW aa ad t σk1 []) hm) q_i_X9_undo q_s_X9_undo rfl rfl rfl q_c_X9_undo q_l_L_327 q_n_X9 (by decide +kernel) rfl ⟨Nat.le_of_ble_eq_true rfl, Nat.le_of_ble_eq_true rfl⟩ ⟨hkk, hnn⟩ (Nat.le_of_ble_eq_true rfl) (lw_pm_m aa ad am t σk1 σm _ _) (lw_pm_m aa ad am t σk1 σm1 _ _).symm dL_law_2688 ?_ rfl
    refine j_istore (L' := [(7, .int r), (6, .int 1), (5, .int i), (4, .ref od), (3, .ref o), (2, .ref (am 0)), (1, .ref (ad 0)), (0, .ref b)]) (pc := 2691) g dL_law_2691 (Nat.le_of_ble_eq_true rfl) rfl ?_
    refine j_aload_n (pc := 2693) g 5 dL_law_2693 rfl ?_
    refine j_callVi (pc := 2694) (na := 0) (As := []) (rest := []) (q0 := 2) (ci := 10) (w' := ((o, .inl (t 4, 1, .inr (.inl fo))) :: (od, .inl (t 5, 1, .inr (.inr (.inr (.inl fd))))) :: (mC am t σm1 ++ kW aa ad t σk1 []))) g (cX9_thrown_ (rs := (o, .inl (t 4, 1, .inr (.inl fo))) :: (od, .inl (t 5, 1, .inr (.inr (.inr (.inl fd))))) :: kW aa ad t σk1 []) rfl) q_i_X9_thrown q_s_X9_thrown rfl rfl rfl q_c_X9_thrown q_l_L_155 q_n_X9 (by decide +kernel) rfl ⟨Nat.le_of_ble_eq_true rfl, Nat.le_of_ble_eq_true rfl⟩ ⟨hkk, hnn⟩ (Nat.le_of_ble_eq_true rfl) (lw_pm_m aa ad am t σk1 σm1 _ _) (lw_pm_m aa ad am t σk1 σm1 _ _).symm dL_law_2694 ?_ rfl
    refine j_iload (pc := 2697) g 1 dL_law_2697 rfl ?_
    refine j_icmp_eq (tgt := 2704) (pc := 2699) g dL_law_2699 (by decide) (fun _ => ?_) (fun h9 => absurd h0 h9)
    refine j_iload (pc := 2704) g 1 dL_law_2704 rfl ?_
    refine j_if_ne (tgt := 2721) (pc := 2706) g dL_law_2706 (by decide) (fun _ => ?_) (fun h9 => absurd h9 (by decide))
    refine j_goto (tgt := 2781) (pc := 2721) g dL_law_2721 (by decide) ?_
    refine j_sub (pc := 2781) g [2, 3, 4, 5, 6, 7] rfl ?_
    exact j_widen g (by omega) (by omega) (next σk1 σm1 fo fd hR)
set_option maxRecDepth 100000 in
set_option maxHeartbeats 4000000 in
theorem lw_c50 {D : va_G} {t : Nat → ClassId} {aa : gx_AA} {l : Launch} {J : gx_J} {b Ln : Nat} {xs : Nat → Int32} (gl : gx_GL D t (gx_E0 aa) l room_1 cL_law RL 10 J b Ln xs) (hst : l.stackTraces = false) {k n : Nat} (hk : k + 1 ≤ room_1.cells) (hn : n + 6 ≤ room_1.slots) {i : Int32} (h1 : vp_in (i + 1) Ln) (h2 : vp_in (i + 2) Ln) (h3 : vp_in (i + 3) Ln) {ad am : Nat → Nat} {o od : Nat} {σk : CS} {σm : OS} {fo : Nat → Int64} {fd : Nat → UInt64} {R : CS → OS → Prop} (hag : Ag_save R σk σm) (next : ∀ (σk2 : CS) (σm2 : OS) (fo2 : Nat → Int64) (fd2 : Nat → UInt64), R σk2 σm2 → J (k + 1) (n + 6) ((o, .inl (t 4, 1, .inr (.inl fo2))) :: (od, .inl (t 5, 1, .inr (.inr (.inr (.inl fd2))))) :: (mC am t σm2 ++ kW aa ad t σk2 [])) 2781 [(5, .int i), (4, .ref od), (3, .ref o), (2, .ref (am 0)), (1, .ref (ad 0)), (0, .ref b)] []) : J k n ((o, .inl (t 4, 1, .inr (.inl fo))) :: (od, .inl (t 5, 1, .inr (.inr (.inr (.inl fd))))) :: (mC am t σm ++ kW aa ad t σk [])) 2724 [(5, .int i), (4, .ref od), (3, .ref o), (2, .ref (am 0)), (1, .ref (ad 0)), (0, .ref b)] [] := by
  have g := gl.g
  have hkk : k ≤ room_1.cells := by omega
  have hnn : n ≤ room_1.slots := by omega
  obtain ⟨r, σm1, hm, σk1, hf, hR⟩ := hag
  refine j_aload_n (pc := 2724) g 4 dL_law_2724 rfl ?_
  refine j_callVi (pc := 2725) (na := 0) (As := []) (rest := []) (q0 := 10) (ci := 9) (w' := ((o, .inl (t 4, 1, .inr (.inl fo))) :: (od, .inl (t 5, 1, .inr (.inr (.inr (.inl fd))))) :: (mC am t σm ++ kW aa ad t σk1 []))) g (cX8_save_ (rs := (o, .inl (t 4, 1, .inr (.inl fo))) :: (od, .inl (t 5, 1, .inr (.inr (.inr (.inl fd))))) :: mC am t σm) hf) q_i_X8_save q_s_X8_save rfl rfl (lw_at9 aa ad am t σk σm _ _) q_c_X8_save q_l_L_328 q_n_X8 (by decide +kernel) rfl ⟨Nat.le_of_ble_eq_true rfl, Nat.le_of_ble_eq_true rfl⟩ ⟨hkk, hnn⟩ (Nat.le_of_ble_eq_true rfl) (lw_pm_k aa ad am t σk σm _ _) (lw_pm_k aa ad am t σk1 σm _ _).symm dL_law_2725 ?_ rfl
  refine j_aload_n (pc := 2728) g 3 dL_law_2728 rfl ?_
  refine j_callVi (pc := 2729) (na := 0) (As := []) (rest := [.int r]) (q0 := 2) (ci := 10) (w' := ((o, .inl (t 4, 1, .inr (.inl fo))) :: (od, .inl (t 5, 1, .inr (.inr (.inr (.inl fd))))) :: (mC am t σm1 ++ kW aa ad t σk1 []))) g (cX9_save_ (rs := (o, .inl (t 4, 1, .inr (.inl fo))) :: (od, .inl (t 5, 1, .inr (.inr (.inr (.inl fd))))) :: kW aa ad t σk1 []) hm) q_i_X9_save q_s_X9_save rfl rfl rfl q_c_X9_save q_l_L_331 q_n_X9 (by decide +kernel) rfl ⟨Nat.le_of_ble_eq_true rfl, Nat.le_of_ble_eq_true rfl⟩ ⟨hkk, hnn⟩ (Nat.le_of_ble_eq_true rfl) (lw_pm_m aa ad am t σk1 σm _ _) (lw_pm_m aa ad am t σk1 σm1 _ _).symm dL_law_2729 ?_ rfl
  refine j_icmp_eq (tgt := 2781) (pc := 2732) g dL_law_2732 (by decide) (fun _ => ?_) (fun h9 => absurd rfl h9)
  refine j_sub (pc := 2781) g [0, 1, 2, 3, 4, 5] rfl ?_
  exact j_widen g (by omega) (by omega) (next σk1 σm1 fo fd hR)
set_option maxRecDepth 100000 in
set_option maxHeartbeats 4000000 in
theorem lw_c51 {D : va_G} {t : Nat → ClassId} {aa : gx_AA} {l : Launch} {J : gx_J} {b Ln : Nat} {xs : Nat → Int32} (gl : gx_GL D t (gx_E0 aa) l room_1 cL_law RL 10 J b Ln xs) (hst : l.stackTraces = false) {k n : Nat} (hk : k + 1 ≤ room_1.cells) (hn : n + 6 ≤ room_1.slots) {i : Int32} (h1 : vp_in (i + 1) Ln) (h2 : vp_in (i + 2) Ln) (h3 : vp_in (i + 3) Ln) {ad am : Nat → Nat} {o od : Nat} {σk : CS} {σm : OS} {fo : Nat → Int64} {fd : Nat → UInt64} {R : CS → OS → Prop} (hag : Ag_restore R σk σm) (next : ∀ (σk2 : CS) (σm2 : OS) (fo2 : Nat → Int64) (fd2 : Nat → UInt64), R σk2 σm2 → J (k + 1) (n + 6) ((o, .inl (t 4, 1, .inr (.inl fo2))) :: (od, .inl (t 5, 1, .inr (.inr (.inr (.inl fd2))))) :: (mC am t σm2 ++ kW aa ad t σk2 [])) 2781 [(5, .int i), (4, .ref od), (3, .ref o), (2, .ref (am 0)), (1, .ref (ad 0)), (0, .ref b)] []) : J k n ((o, .inl (t 4, 1, .inr (.inl fo))) :: (od, .inl (t 5, 1, .inr (.inr (.inr (.inl fd))))) :: (mC am t σm ++ kW aa ad t σk [])) 2737 [(5, .int i), (4, .ref od), (3, .ref o), (2, .ref (am 0)), (1, .ref (ad 0)), (0, .ref b)] [] := by
  have g := gl.g
  have hkk : k ≤ room_1.cells := by omega
  have hnn : n ≤ room_1.slots := by omega
  obtain ⟨r, σm1, hm, hag⟩ := hag
  rcases hag with ⟨σk1, hf, h0, hR⟩ | ⟨σk1, hf, h0, hR⟩
  · refine j_aload_n (pc := 2737) g 4 dL_law_2737 rfl ?_
    refine j_aload_n (pc := 2738) g 2 dL_law_2738 rfl ?_
    refine j_callH (pc := 2739) (na := 2) (As := [.ref (ad 0), .ref o]) (rest := []) (r := 0) (w' := ((o, .inl (t 4, 1, .inr (.inl (vp_updL fo (0 : Int32).toNatClampNeg r.toInt64)))) :: (od, .inl (t 5, 1, .inr (.inr (.inr (.inl fd))))) :: (mC am t σm ++ kW aa ad t σk1 []))) g (hL_restore_ok (rs := (od, .inl (t 5, 1, .inr (.inr (.inr (.inl fd))))) :: mC am t σm) hst hf) q_t_L_restore q_w_L_restore q_l_L_332 q_n_L (by decide) (by decide +kernel) rfl ⟨Nat.le_of_ble_eq_true rfl, Nat.le_of_ble_eq_true rfl⟩ ⟨by omega, by omega⟩ (Nat.le_of_ble_eq_true rfl) (lw_pm_h aa ad am t σk σm _ _) (lw_pm_h aa ad am t σk1 σm _ _).symm dL_law_2739 ?_ rfl
    have hkk : k + 0 ≤ room_1.cells := by omega
    have hnn : n + 0 ≤ room_1.slots := by omega
    refine j_istore (L' := [(6, .int 0), (5, .int i), (4, .ref od), (3, .ref o), (2, .ref (am 0)), (1, .ref (ad 0)), (0, .ref b)]) (pc := 2742) g dL_law_2742 (Nat.le_of_ble_eq_true rfl) rfl ?_
    refine j_aload_n (pc := 2744) g 4 dL_law_2744 rfl ?_
    refine j_callVi (pc := 2745) (na := 0) (As := []) (rest := []) (q0 := 2) (ci := 10) (w' := ((o, .inl (t 4, 1, .inr (.inl (vp_updL fo (0 : Int32).toNatClampNeg r.toInt64)))) :: (od, .inl (t 5, 1, .inr (.inr (.inr (.inl fd))))) :: (mC am t σm1 ++ kW aa ad t σk1 []))) g (cX9_restore_ (rs := (o, .inl (t 4, 1, .inr (.inl (vp_updL fo (0 : Int32).toNatClampNeg r.toInt64)))) :: (od, .inl (t 5, 1, .inr (.inr (.inr (.inl fd))))) :: kW aa ad t σk1 []) hm) q_i_X9_restore q_s_X9_restore rfl rfl rfl q_c_X9_restore q_l_L_334 q_n_X9 (by decide +kernel) rfl ⟨Nat.le_of_ble_eq_true rfl, Nat.le_of_ble_eq_true rfl⟩ ⟨hkk, hnn⟩ (Nat.le_of_ble_eq_true rfl) (lw_pm_m aa ad am t σk1 σm _ _) (lw_pm_m aa ad am t σk1 σm1 _ _).symm dL_law_2745 ?_ rfl
    refine j_istore (L' := [(7, .int r), (6, .int 0), (5, .int i), (4, .ref od), (3, .ref o), (2, .ref (am 0)), (1, .ref (ad 0)), (0, .ref b)]) (pc := 2748) g dL_law_2748 (Nat.le_of_ble_eq_true rfl) rfl ?_
    refine j_aload_n (pc := 2750) g 5 dL_law_2750 rfl ?_
    refine j_callVi (pc := 2751) (na := 0) (As := []) (rest := []) (q0 := 2) (ci := 10) (w' := ((o, .inl (t 4, 1, .inr (.inl (vp_updL fo (0 : Int32).toNatClampNeg r.toInt64)))) :: (od, .inl (t 5, 1, .inr (.inr (.inr (.inl fd))))) :: (mC am t σm1 ++ kW aa ad t σk1 []))) g (cX9_thrown_ (rs := (o, .inl (t 4, 1, .inr (.inl (vp_updL fo (0 : Int32).toNatClampNeg r.toInt64)))) :: (od, .inl (t 5, 1, .inr (.inr (.inr (.inl fd))))) :: kW aa ad t σk1 []) rfl) q_i_X9_thrown q_s_X9_thrown rfl rfl rfl q_c_X9_thrown q_l_L_155 q_n_X9 (by decide +kernel) rfl ⟨Nat.le_of_ble_eq_true rfl, Nat.le_of_ble_eq_true rfl⟩ ⟨hkk, hnn⟩ (Nat.le_of_ble_eq_true rfl) (lw_pm_m aa ad am t σk1 σm1 _ _) (lw_pm_m aa ad am t σk1 σm1 _ _).symm dL_law_2751 ?_ rfl
    refine j_iload (pc := 2754) g 1 dL_law_2754 rfl ?_
    refine j_icmp_eq (tgt := 2761) (pc := 2756) g dL_law_2756 (by decide) (fun _ => ?_) (fun h9 => absurd h0 h9)
    refine j_iload (pc := 2761) g 1 dL_law_2761 rfl ?_
    refine j_if_ne (tgt := 2778) (pc := 2763) g dL_law_2763 (by decide) (fun h9 => absurd rfl h9) (fun _ => ?_)
    refine j_aload_n (pc := 2766) g 4 dL_law_2766 rfl ?_
    refine j_iconst (v := 0) (pc := 2767) g dL_law_2767 (by decide) ?_
    refine j_lald (pc := 2768) g 0 rfl (show gx_in (0 : Int32) 1 by decide) dL_law_2768 ?_
    refine j_iload (pc := 2769) g 0 dL_law_2769 rfl ?_
    refine j_i2l (pc := 2771) g dL_law_2771 ?_
    refine j_lcmp (pc := 2772) g dL_law_2772 ?_
    refine j_if_eq (tgt := 2778) (pc := 2773) g dL_law_2773 (by decide) (fun _ => ?_) (fun h9 => absurd (lw_cmp0 _) h9)
    refine j_goto (tgt := 2781) (pc := 2778) g dL_law_2778 (by decide) ?_
    refine j_sub (pc := 2781) g [2, 3, 4, 5, 6, 7] rfl ?_
    exact j_widen g (by omega) (by omega) (next σk1 σm1 (vp_updL fo (0 : Int32).toNatClampNeg r.toInt64) fd hR)
  · refine j_aload_n (pc := 2737) g 4 dL_law_2737 rfl ?_
    refine j_aload_n (pc := 2738) g 2 dL_law_2738 rfl ?_
    refine j_callH (pc := 2739) (na := 2) (As := [.ref (ad 0), .ref o]) (rest := []) (r := 1) (w' := ((o, .inl (t 4, 1, .inr (.inl fo))) :: (od, .inl (t 5, 1, .inr (.inr (.inr (.inl fd))))) :: (mC am t σm ++ kW aa ad t σk1 []))) g (hL_restore_x1 (rs := (od, .inl (t 5, 1, .inr (.inr (.inr (.inl fd))))) :: mC am t σm) hst hf) q_t_L_restore q_w_L_restore q_l_L_332 q_n_L (by decide) (by decide +kernel) rfl ⟨Nat.le_of_ble_eq_true rfl, Nat.le_of_ble_eq_true rfl⟩ ⟨by omega, by omega⟩ (Nat.le_of_ble_eq_true rfl) (lw_pm_h aa ad am t σk σm _ _) (lw_pm_h aa ad am t σk1 σm _ _).symm dL_law_2739 ?_ rfl
    have hkk : k + 1 ≤ room_1.cells := by omega
    have hnn : n + 6 ≤ room_1.slots := by omega
    refine j_istore (L' := [(6, .int 1), (5, .int i), (4, .ref od), (3, .ref o), (2, .ref (am 0)), (1, .ref (ad 0)), (0, .ref b)]) (pc := 2742) g dL_law_2742 (Nat.le_of_ble_eq_true rfl) rfl ?_
    refine j_aload_n (pc := 2744) g 4 dL_law_2744 rfl ?_
    refine j_callVi (pc := 2745) (na := 0) (As := []) (rest := []) (q0 := 2) (ci := 10) (w' := ((o, .inl (t 4, 1, .inr (.inl fo))) :: (od, .inl (t 5, 1, .inr (.inr (.inr (.inl fd))))) :: (mC am t σm1 ++ kW aa ad t σk1 []))) g (cX9_restore_ (rs := (o, .inl (t 4, 1, .inr (.inl fo))) :: (od, .inl (t 5, 1, .inr (.inr (.inr (.inl fd))))) :: kW aa ad t σk1 []) hm) q_i_X9_restore q_s_X9_restore rfl rfl rfl q_c_X9_restore q_l_L_334 q_n_X9 (by decide +kernel) rfl ⟨Nat.le_of_ble_eq_true rfl, Nat.le_of_ble_eq_true rfl⟩ ⟨hkk, hnn⟩ (Nat.le_of_ble_eq_true rfl) (lw_pm_m aa ad am t σk1 σm _ _) (lw_pm_m aa ad am t σk1 σm1 _ _).symm dL_law_2745 ?_ rfl
    refine j_istore (L' := [(7, .int r), (6, .int 1), (5, .int i), (4, .ref od), (3, .ref o), (2, .ref (am 0)), (1, .ref (ad 0)), (0, .ref b)]) (pc := 2748) g dL_law_2748 (Nat.le_of_ble_eq_true rfl) rfl ?_
    refine j_aload_n (pc := 2750) g 5 dL_law_2750 rfl ?_
    refine j_callVi (pc := 2751) (na := 0) (As := []) (rest := []) (q0 := 2) (ci := 10) (w' := ((o, .inl (t 4, 1, .inr (.inl fo))) :: (od, .inl (t 5, 1, .inr (.inr (.inr (.inl fd))))) :: (mC am t σm1 ++ kW aa ad t σk1 []))) g (cX9_thrown_ (rs := (o, .inl (t 4, 1, .inr (.inl fo))) :: (od, .inl (t 5, 1, .inr (.inr (.inr (.inl fd))))) :: kW aa ad t σk1 []) rfl) q_i_X9_thrown q_s_X9_thrown rfl rfl rfl q_c_X9_thrown q_l_L_155 q_n_X9 (by decide +kernel) rfl ⟨Nat.le_of_ble_eq_true rfl, Nat.le_of_ble_eq_true rfl⟩ ⟨hkk, hnn⟩ (Nat.le_of_ble_eq_true rfl) (lw_pm_m aa ad am t σk1 σm1 _ _) (lw_pm_m aa ad am t σk1 σm1 _ _).symm dL_law_2751 ?_ rfl
    refine j_iload (pc := 2754) g 1 dL_law_2754 rfl ?_
    refine j_icmp_eq (tgt := 2761) (pc := 2756) g dL_law_2756 (by decide) (fun _ => ?_) (fun h9 => absurd h0 h9)
    refine j_iload (pc := 2761) g 1 dL_law_2761 rfl ?_
    refine j_if_ne (tgt := 2778) (pc := 2763) g dL_law_2763 (by decide) (fun _ => ?_) (fun h9 => absurd h9 (by decide))
    refine j_goto (tgt := 2781) (pc := 2778) g dL_law_2778 (by decide) ?_
    refine j_sub (pc := 2781) g [2, 3, 4, 5, 6, 7] rfl ?_
    exact j_widen g (by omega) (by omega) (next σk1 σm1 fo fd hR)
