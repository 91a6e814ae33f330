set_option maxRecDepth 100000 in
set_option maxHeartbeats 4000000 in
theorem lw_c24 {D : va_G} {t : Nat → ClassId} {aa : gx_AA} {l : Launch} {J : gx_J} {b Ln : Nat} {xs : Nat → Int32} (gl : gx_GL D t (gx_E0 aa) l room_1 cL_law RL 10 J b Ln xs) (hst : l.stackTraces = false) {k n : Nat} (hk : k + 1 ≤ room_1.cells) (hn : n + 6 ≤ room_1.slots) {i : Int32} (h1 : vp_in (i + 1) Ln) (h2 : vp_in (i + 2) Ln) (h3 : vp_in (i + 3) Ln) {ad am : Nat → Nat} {o od : Nat} {σk : CS} {σm : OS} {fo : Nat → Int64} {fd : Nat → UInt64} {R : CS → OS → Prop} (hag : Ag_hoursFor R σk σm (xs (i + 1).toNatClampNeg) (xs (i + 2).toNatClampNeg)) (next : ∀ (σk2 : CS) (σm2 : OS) (fo2 : Nat → Int64) (fd2 : Nat → UInt64), R σk2 σm2 → J (k + 1) (n + 6) ((o, .inl (t 4, 1, .inr (.inl fo2))) :: (od, .inl (t 5, 1, .inr (.inr (.inr (.inl fd2))))) :: (mC am t σm2 ++ kW aa ad t σk2 [])) 2781 [(5, .int i), (4, .ref od), (3, .ref o), (2, .ref (am 0)), (1, .ref (ad 0)), (0, .ref b)] []) : J k n ((o, .inl (t 4, 1, .inr (.inl fo))) :: (od, .inl (t 5, 1, .inr (.inr (.inr (.inl fd))))) :: (mC am t σm ++ kW aa ad t σk [])) 1544 [(5, .int i), (4, .ref od), (3, .ref o), (2, .ref (am 0)), (1, .ref (ad 0)), (0, .ref b)] [] := by
  have g := gl.g
  have hkk : k ≤ room_1.cells := by omega
  have hnn : n ≤ room_1.slots := by omega
  obtain ⟨r, σm1, hm, hag⟩ := hag
  rcases hag with ⟨σk1, hf, h0, hR⟩ | ⟨σk1, hf, h0, hR⟩ | ⟨σk1, hf, h0, hR⟩
  · refine j_aload_n (pc := 1544) g 4 dL_law_1544 rfl ?_
    refine j_aload_n (pc := 1545) g 5 dL_law_1545 rfl ?_
    refine j_iload (pc := 1546) g 0 dL_law_1546 rfl ?_
    refine j_iconst (v := 1) (pc := 1548) g dL_law_1548 (by decide) ?_
    refine j_iadd (pc := 1549) g dL_law_1549 ?_
    refine j_sld (pc := 1550) gl h1 dL_law_1550 ?_
    refine j_aload_n (pc := 1551) g 5 dL_law_1551 rfl ?_
    refine j_iload (pc := 1552) g 0 dL_law_1552 rfl ?_
    refine j_iconst (v := 2) (pc := 1554) g dL_law_1554 (by decide) ?_
    refine j_iadd (pc := 1555) g dL_law_1555 ?_
    refine j_sld (pc := 1556) gl h2 dL_law_1556 ?_
    refine j_aload_n (pc := 1557) g 2 dL_law_1557 rfl ?_
    refine j_callH (pc := 1558) (na := 4) (As := [.ref (ad 0), .int (xs (i + 1).toNatClampNeg), .int (xs (i + 2).toNatClampNeg), .ref o]) (rest := []) (r := 0) (w' := ((o, .inl (t 4, 1, .inr (.inl (vp_updL fo (0 : Int32).toNatClampNeg r.toInt64)))) :: (od, .inl (t 5, 1, .inr (.inr (.inr (.inl fd))))) :: (mC am t σm ++ kW aa ad t σk1 []))) g (hL_hoursFor_ok (rs := (od, .inl (t 5, 1, .inr (.inr (.inr (.inl fd))))) :: mC am t σm) hst hf) q_t_L_hoursFor q_w_L_hoursFor q_l_L_237 q_n_L (by decide) (by decide +kernel) rfl ⟨Nat.le_of_ble_eq_true rfl, Nat.le_of_ble_eq_true rfl⟩ ⟨by omega, by omega⟩ (Nat.le_of_ble_eq_true rfl) (lw_pm_h aa ad am t σk σm _ _) (lw_pm_h aa ad am t σk1 σm _ _).symm dL_law_1558 ?_ rfl
    have hkk : k + 0 ≤ room_1.cells := by omega
    have hnn : n + 0 ≤ room_1.slots := by omega
    refine j_istore (L' := [(6, .int 0), (5, .int i), (4, .ref od), (3, .ref o), (2, .ref (am 0)), (1, .ref (ad 0)), (0, .ref b)]) (pc := 1561) g dL_law_1561 (Nat.le_of_ble_eq_true rfl) rfl ?_
    refine j_aload_n (pc := 1563) g 4 dL_law_1563 rfl ?_
    refine j_aload_n (pc := 1564) g 6 dL_law_1564 rfl ?_
    refine j_iload (pc := 1565) g 1 dL_law_1565 rfl ?_
    refine j_iconst (v := 1) (pc := 1567) g dL_law_1567 (by decide) ?_
    refine j_iadd (pc := 1568) g dL_law_1568 ?_
    refine j_sld (pc := 1569) gl h1 dL_law_1569 ?_
    refine j_aload_n (pc := 1570) g 6 dL_law_1570 rfl ?_
    refine j_iload (pc := 1571) g 1 dL_law_1571 rfl ?_
    refine j_iconst (v := 2) (pc := 1573) g dL_law_1573 (by decide) ?_
    refine j_iadd (pc := 1574) g dL_law_1574 ?_
    refine j_sld (pc := 1575) gl h2 dL_law_1575 ?_
    refine j_callVi (pc := 1576) (na := 2) (As := [.int (xs (i + 1).toNatClampNeg), .int (xs (i + 2).toNatClampNeg)]) (rest := []) (q0 := 2) (ci := 10) (w' := ((o, .inl (t 4, 1, .inr (.inl (vp_updL fo (0 : Int32).toNatClampNeg r.toInt64)))) :: (od, .inl (t 5, 1, .inr (.inr (.inr (.inl fd))))) :: (mC am t σm1 ++ kW aa ad t σk1 []))) g (cX9_hoursFor_ (rs := (o, .inl (t 4, 1, .inr (.inl (vp_updL fo (0 : Int32).toNatClampNeg r.toInt64)))) :: (od, .inl (t 5, 1, .inr (.inr (.inr (.inl fd))))) :: kW aa ad t σk1 []) hm) q_i_X9_hoursFor q_s_X9_hoursFor rfl rfl rfl q_c_X9_hoursFor q_l_L_239 q_n_X9 (by decide +kernel) rfl ⟨Nat.le_of_ble_eq_true rfl, Nat.le_of_ble_eq_true rfl⟩ ⟨hkk, hnn⟩ (Nat.le_of_ble_eq_true rfl) (lw_pm_m aa ad am t σk1 σm _ _) (lw_pm_m aa ad am t σk1 σm1 _ _).symm dL_law_1576 ?_ rfl
    refine j_istore (L' := [(7, .int r), (6, .int 0), (5, .int i), (4, .ref od), (3, .ref o), (2, .ref (am 0)), (1, .ref (ad 0)), (0, .ref b)]) (pc := 1579) g dL_law_1579 (Nat.le_of_ble_eq_true rfl) rfl ?_
    refine j_aload_n (pc := 1581) g 5 dL_law_1581 rfl ?_
    refine j_callVi (pc := 1582) (na := 0) (As := []) (rest := []) (q0 := 2) (ci := 10) (w' := ((o, .inl (t 4, 1, .inr (.inl (vp_updL fo (0 : Int32).toNatClampNeg r.toInt64)))) :: (od, .inl (t 5, 1, .inr (.inr (.inr (.inl fd))))) :: (mC am t σm1 ++ kW aa ad t σk1 []))) g (cX9_thrown_ (rs := (o, .inl (t 4, 1, .inr (.inl (vp_updL fo (0 : Int32).toNatClampNeg r.toInt64)))) :: (od, .inl (t 5, 1, .inr (.inr (.inr (.inl fd))))) :: kW aa ad t σk1 []) rfl) q_i_X9_thrown q_s_X9_thrown rfl rfl rfl q_c_X9_thrown q_l_L_155 q_n_X9 (by decide +kernel) rfl ⟨Nat.le_of_ble_eq_true rfl, Nat.le_of_ble_eq_true rfl⟩ ⟨hkk, hnn⟩ (Nat.le_of_ble_eq_true rfl) (lw_pm_m aa ad am t σk1 σm1 _ _) (lw_pm_m aa ad am t σk1 σm1 _ _).symm dL_law_1582 ?_ rfl
    refine j_iload (pc := 1585) g 1 dL_law_1585 rfl ?_
    refine j_icmp_eq (tgt := 1592) (pc := 1587) g dL_law_1587 (by decide) (fun _ => ?_) (fun h9 => absurd h0 h9)
    refine j_iload (pc := 1592) g 1 dL_law_1592 rfl ?_
    refine j_if_ne (tgt := 1609) (pc := 1594) g dL_law_1594 (by decide) (fun h9 => absurd rfl h9) (fun _ => ?_)
    refine j_aload_n (pc := 1597) g 4 dL_law_1597 rfl ?_
    refine j_iconst (v := 0) (pc := 1598) g dL_law_1598 (by decide) ?_
    refine j_lald (pc := 1599) g 0 rfl (show gx_in (0 : Int32) 1 by decide) dL_law_1599 ?_
    refine j_iload (pc := 1600) g 0 dL_law_1600 rfl ?_
    refine j_i2l (pc := 1602) g dL_law_1602 ?_
    refine j_lcmp (pc := 1603) g dL_law_1603 ?_
    refine j_if_eq (tgt := 1609) (pc := 1604) g dL_law_1604 (by decide) (fun _ => ?_) (fun h9 => absurd (lw_cmp0 _) h9)
    refine j_goto (tgt := 2781) (pc := 1609) g dL_law_1609 (by decide) ?_
    refine j_sub (pc := 2781) g [2, 3, 4, 5, 6, 7] rfl ?_
    exact j_widen g (by omega) (by omega) (next σk1 σm1 (vp_updL fo (0 : Int32).toNatClampNeg r.toInt64) fd hR)
  · refine j_aload_n (pc := 1544) g 4 dL_law_1544 rfl ?_
    refine j_aload_n (pc := 1545) g 5 dL_law_1545 rfl ?_
    refine j_iload (pc := 1546) g 0 dL_law_1546 rfl ?_
    refine j_iconst (v := 1) (pc := 1548) g dL_law_1548 (by decide) ?_
    refine j_iadd (pc := 1549) g dL_law_1549 ?_
    refine j_sld (pc := 1550) gl h1 dL_law_1550 ?_
    refine j_aload_n (pc := 1551) g 5 dL_law_1551 rfl ?_
    refine j_iload (pc := 1552) g 0 dL_law_1552 rfl ?_
    refine j_iconst (v := 2) (pc := 1554) g dL_law_1554 (by decide) ?_
    refine j_iadd (pc := 1555) g dL_law_1555 ?_
    refine j_sld (pc := 1556) gl h2 dL_law_1556 ?_
    refine j_aload_n (pc := 1557) g 2 dL_law_1557 rfl ?_
    refine j_callH (pc := 1558) (na := 4) (As := [.ref (ad 0), .int (xs (i + 1).toNatClampNeg), .int (xs (i + 2).toNatClampNeg), .ref o]) (rest := []) (r := 1) (w' := ((o, .inl (t 4, 1, .inr (.inl fo))) :: (od, .inl (t 5, 1, .inr (.inr (.inr (.inl fd))))) :: (mC am t σm ++ kW aa ad t σk1 []))) g (hL_hoursFor_x1 (rs := (od, .inl (t 5, 1, .inr (.inr (.inr (.inl fd))))) :: mC am t σm) hst hf) q_t_L_hoursFor q_w_L_hoursFor q_l_L_237 q_n_L (by decide) (by decide +kernel) rfl ⟨Nat.le_of_ble_eq_true rfl, Nat.le_of_ble_eq_true rfl⟩ ⟨by omega, by omega⟩ (Nat.le_of_ble_eq_true rfl) (lw_pm_h aa ad am t σk σm _ _) (lw_pm_h aa ad am t σk1 σm _ _).symm dL_law_1558 ?_ rfl
    have hkk : k + 1 ≤ room_1.cells := by omega
    have hnn : n + 6 ≤ room_1.slots := by omega
    refine j_istore (L' := [(6, .int 1), (5, .int i), (4, .ref od), (3, .ref o), (2, .ref (am 0)), (1, .ref (ad 0)), (0, .ref b)]) (pc := 1561) g dL_law_1561 (Nat.le_of_ble_eq_true rfl) rfl ?_
    refine j_aload_n (pc := 1563) g 4 dL_law_1563 rfl ?_
    refine j_aload_n (pc := 1564) g 6 dL_law_1564 rfl ?_
    refine j_iload (pc := 1565) g 1 dL_law_1565 rfl ?_
    refine j_iconst (v := 1) (pc := 1567) g dL_law_1567 (by decide) ?_
    refine j_iadd (pc := 1568) g dL_law_1568 ?_
    refine j_sld (pc := 1569) gl h1 dL_law_1569 ?_
    refine j_aload_n (pc := 1570) g 6 dL_law_1570 rfl ?_
    refine j_iload (pc := 1571) g 1 dL_law_1571 rfl ?_
    refine j_iconst (v := 2) (pc := 1573) g dL_law_1573 (by decide) ?_
    refine j_iadd (pc := 1574) g dL_law_1574 ?_
    refine j_sld (pc := 1575) gl h2 dL_law_1575 ?_
    refine j_callVi (pc := 1576) (na := 2) (As := [.int (xs (i + 1).toNatClampNeg), .int (xs (i + 2).toNatClampNeg)]) (rest := []) (q0 := 2) (ci := 10) (w' := ((o, .inl (t 4, 1, .inr (.inl fo))) :: (od, .inl (t 5, 1, .inr (.inr (.inr (.inl fd))))) :: (mC am t σm1 ++ kW aa ad t σk1 []))) g (cX9_hoursFor_ (rs := (o, .inl (t 4, 1, .inr (.inl fo))) :: (od, .inl (t 5, 1, .inr (.inr (.inr (.inl fd))))) :: kW aa ad t σk1 []) hm) q_i_X9_hoursFor q_s_X9_hoursFor rfl rfl rfl q_c_X9_hoursFor q_l_L_239 q_n_X9 (by decide +kernel) rfl ⟨Nat.le_of_ble_eq_true rfl, Nat.le_of_ble_eq_true rfl⟩ ⟨hkk, hnn⟩ (Nat.le_of_ble_eq_true rfl) (lw_pm_m aa ad am t σk1 σm _ _) (lw_pm_m aa ad am t σk1 σm1 _ _).symm dL_law_1576 ?_ rfl
    refine j_istore (L' := [(7, .int r), (6, .int 1), (5, .int i), (4, .ref od), (3, .ref o), (2, .ref (am 0)), (1, .ref (ad 0)), (0, .ref b)]) (pc := 1579) g dL_law_1579 (Nat.le_of_ble_eq_true rfl) rfl ?_
    refine j_aload_n (pc := 1581) g 5 dL_law_1581 rfl ?_
    refine j_callVi (pc := 1582) (na := 0) (As := []) (rest := []) (q0 := 2) (ci := 10) (w' := ((o, .inl (t 4, 1, .inr (.inl fo))) :: (od, .inl (t 5, 1, .inr (.inr (.inr (.inl fd))))) :: (mC am t σm1 ++ kW aa ad t σk1 []))) g (cX9_thrown_ (rs := (o, .inl (t 4, 1, .inr (.inl fo))) :: (od, .inl (t 5, 1, .inr (.inr (.inr (.inl fd))))) :: kW aa ad t σk1 []) rfl) q_i_X9_thrown q_s_X9_thrown rfl rfl rfl q_c_X9_thrown q_l_L_155 q_n_X9 (by decide +kernel) rfl ⟨Nat.le_of_ble_eq_true rfl, Nat.le_of_ble_eq_true rfl⟩ ⟨hkk, hnn⟩ (Nat.le_of_ble_eq_true rfl) (lw_pm_m aa ad am t σk1 σm1 _ _) (lw_pm_m aa ad am t σk1 σm1 _ _).symm dL_law_1582 ?_ rfl
    refine j_iload (pc := 1585) g 1 dL_law_1585 rfl ?_
    refine j_icmp_eq (tgt := 1592) (pc := 1587) g dL_law_1587 (by decide) (fun _ => ?_) (fun h9 => absurd h0 h9)
    refine j_iload (pc := 1592) g 1 dL_law_1592 rfl ?_
    refine j_if_ne (tgt := 1609) (pc := 1594) g dL_law_1594 (by decide) (fun _ => ?_) (fun h9 => absurd h9 (by decide))
    refine j_goto (tgt := 2781) (pc := 1609) g dL_law_1609 (by decide) ?_
    refine j_sub (pc := 2781) g [2, 3, 4, 5, 6, 7] rfl ?_
    exact j_widen g (by omega) (by omega) (next σk1 σm1 fo fd hR)
  · refine j_aload_n (pc := 1544) g 4 dL_law_1544 rfl ?_
    refine j_aload_n (pc := 1545) g 5 dL_law_1545 rfl ?_
    refine j_iload (pc := 1546) g 0 dL_law_1546 rfl ?_
    refine j_iconst (v := 1) (pc := 1548) g dL_law_1548 (by decide) ?_
    refine j_iadd (pc := 1549) g dL_law_1549 ?_
    refine j_sld (pc := 1550) gl h1 dL_law_1550 ?_
    refine j_aload_n (pc := 1551) g 5 dL_law_1551 rfl ?_
    refine j_iload (pc := 1552) g 0 dL_law_1552 rfl ?_
    refine j_iconst (v := 2) (pc := 1554) g dL_law_1554 (by decide) ?_
    refine j_iadd (pc := 1555) g dL_law_1555 ?_
    refine j_sld (pc := 1556) gl h2 dL_law_1556 ?_
    refine j_aload_n (pc := 1557) g 2 dL_law_1557 rfl ?_
    refine j_callH (pc := 1558) (na := 4) (As := [.ref (ad 0), .int (xs (i + 1).toNatClampNeg), .int (xs (i + 2).toNatClampNeg), .ref o]) (rest := []) (r := 2) (w' := ((o, .inl (t 4, 1, .inr (.inl fo))) :: (od, .inl (t 5, 1, .inr (.inr (.inr (.inl fd))))) :: (mC am t σm ++ kW aa ad t σk1 []))) g (hL_hoursFor_x2 (rs := (od, .inl (t 5, 1, .inr (.inr (.inr (.inl fd))))) :: mC am t σm) hst hf) q_t_L_hoursFor q_w_L_hoursFor q_l_L_237 q_n_L (by decide) (by decide +kernel) rfl ⟨Nat.le_of_ble_eq_true rfl, Nat.le_of_ble_eq_true rfl⟩ ⟨by omega, by omega⟩ (Nat.le_of_ble_eq_true rfl) (lw_pm_h aa ad am t σk σm _ _) (lw_pm_h aa ad am t σk1 σm _ _).symm dL_law_1558 ?_ rfl
    have hkk : k + 1 ≤ room_1.cells := by omega
    have hnn : n + 6 ≤ room_1.slots := by omega
    refine j_istore (L' := [(6, .int 2), (5, .int i), (4, .ref od), (3, .ref o), (2, .ref (am 0)), (1, .ref (ad 0)), (0, .ref b)]) (pc := 1561) g dL_law_1561 (Nat.le_of_ble_eq_true rfl) rfl ?_
    refine j_aload_n (pc := 1563) g 4 dL_law_1563 rfl ?_
    refine j_aload_n (pc := 1564) g 6 dL_law_1564 rfl ?_
    refine j_iload (pc := 1565) g 1 dL_law_1565 rfl ?_
    refine j_iconst (v := 1) (pc := 1567) g dL_law_1567 (by decide) ?_
    refine j_iadd (pc := 1568) g dL_law_1568 ?_
    refine j_sld (pc := 1569) gl h1 dL_law_1569 ?_
    refine j_aload_n (pc := 1570) g 6 dL_law_1570 rfl ?_
    refine j_iload (pc := 1571) g 1 dL_law_1571 rfl ?_
    refine j_iconst (v := 2) (pc := 1573) g dL_law_1573 (by decide) ?_
    refine j_iadd (pc := 1574) g dL_law_1574 ?_
    refine j_sld (pc := 1575) gl h2 dL_law_1575 ?_
    refine j_callVi (pc := 1576) (na := 2) (As := [.int (xs (i + 1).toNatClampNeg), .int (xs (i + 2).toNatClampNeg)]) (rest := []) (q0 := 2) (ci := 10) (w' := ((o, .inl (t 4, 1, .inr (.inl fo))) :: (od, .inl (t 5, 1, .inr (.inr (.inr (.inl fd))))) :: (mC am t σm1 ++ kW aa ad t σk1 []))) g (cX9_hoursFor_ (rs := (o, .inl (t 4, 1, .inr (.inl fo))) :: (od, .inl (t 5, 1, .inr (.inr (.inr (.inl fd))))) :: kW aa ad t σk1 []) hm) q_i_X9_hoursFor q_s_X9_hoursFor rfl rfl rfl q_c_X9_hoursFor q_l_L_239 q_n_X9 (by decide +kernel) rfl ⟨Nat.le_of_ble_eq_true rfl, Nat.le_of_ble_eq_true rfl⟩ ⟨hkk, hnn⟩ (Nat.le_of_ble_eq_true rfl) (lw_pm_m aa ad am t σk1 σm _ _) (lw_pm_m aa ad am t σk1 σm1 _ _).symm dL_law_1576 ?_ rfl
    refine j_istore (L' := [(7, .int r), (6, .int 2), (5, .int i), (4, .ref od), (3, .ref o), (2, .ref (am 0)), (1, .ref (ad 0)), (0, .ref b)]) (pc := 1579) g dL_law_1579 (Nat.le_of_ble_eq_true rfl) rfl ?_
    refine j_aload_n (pc := 1581) g 5 dL_law_1581 rfl ?_
    refine j_callVi (pc := 1582) (na := 0) (As := []) (rest := []) (q0 := 2) (ci := 10) (w' := ((o, .inl (t 4, 1, .inr (.inl fo))) :: (od, .inl (t 5, 1, .inr (.inr (.inr (.inl fd))))) :: (mC am t σm1 ++ kW aa ad t σk1 []))) g (cX9_thrown_ (rs := (o, .inl (t 4, 1, .inr (.inl fo))) :: (od, .inl (t 5, 1, .inr (.inr (.inr (.inl fd))))) :: kW aa ad t σk1 []) rfl) q_i_X9_thrown q_s_X9_thrown rfl rfl rfl q_c_X9_thrown q_l_L_155 q_n_X9 (by decide +kernel) rfl ⟨Nat.le_of_ble_eq_true rfl, Nat.le_of_ble_eq_true rfl⟩ ⟨hkk, hnn⟩ (Nat.le_of_ble_eq_true rfl) (lw_pm_m aa ad am t σk1 σm1 _ _) (lw_pm_m aa ad am t σk1 σm1 _ _).symm dL_law_1582 ?_ rfl
    refine j_iload (pc := 1585) g 1 dL_law_1585 rfl ?_
    refine j_icmp_eq (tgt := 1592) (pc := 1587) g dL_law_1587 (by decide) (fun _ => ?_) (fun h9 => absurd h0 h9)
    refine j_iload (pc := 1592) g 1 dL_law_1592 rfl ?_
    refine j_if_ne (tgt := 1609) (pc := 1594) g dL_law_1594 (by decide) (fun _ => ?_) (fun h9 => absurd h9 (by decide))
    refine j_goto (tgt := 2781) (pc := 1609) g dL_law_1609 (by decide) ?_
    refine j_sub (pc := 2781) g [2, 3, 4, 5, 6, 7] rfl ?_
    exact j_widen g (by omega) (by omega) (next σk1 σm1 fo fd hR)
set_option maxRecDepth 100000 in
set_option maxHeartbeats 4000000 in
theorem lw_c25 {D : va_G} {t : Nat → ClassId} {aa : gx_AA} {l : Launch} {J : gx_J} {b Ln : Nat} {xs : Nat → Int32} (gl : gx_GL D t (gx_E0 aa) l room_1 cL_law RL 10 J b Ln xs) (hst : l.stackTraces = false) {k n : Nat} (hk : k + 1 ≤ room_1.cells) (hn : n + 6 ≤ room_1.slots) {i : Int32} (h1 : vp_in (i + 1) Ln) (h2 : vp_in (i + 2) Ln) (h3 : vp_in (i + 3) Ln) {ad am : Nat → Nat} {o od : Nat} {σk : CS} {σm : OS} {fo : Nat → Int64} {fd : Nat → UInt64} {R : CS → OS → Prop} (hag : Ag_greatestSeverity R σk σm (xs (i + 1).toNatClampNeg) (xs (i + 2).toNatClampNeg)) (next : ∀ (σk2 : CS) (σm2 : OS) (fo2 : Nat → Int64) (fd2 : Nat → UInt64), R σk2 σm2 → J (k + 1) (n + 6) ((o, .inl (t 4, 1, .inr (.inl fo2))) :: (od, .inl (t 5, 1, .inr (.inr (.inr (.inl fd2))))) :: (mC am t σm2 ++ kW aa ad t σk2 [])) 2781 [(5, .int i), (4, .ref od), (3, .ref o), (2, .ref (am 0)), (1, .ref (ad 0)), (0, .ref b)] []) : J k n ((o, .inl (t 4, 1, .inr (.inl fo))) :: (od, .inl (t 5, 1, .inr (.inr (.inr (.inl fd))))) :: (mC am t σm ++ kW aa ad t σk [])) 1612 [(5, .int i), (4, .ref od), (3, .ref o), (2, .ref (am 0)), (1, .ref (ad 0)), (0, .ref b)] [] := by
  have g := gl.g
  have hkk : k ≤ room_1.cells := by omega
  have hnn : n ≤ room_1.slots := by omega
  obtain ⟨r, σm1, hm, hag⟩ := hag
  rcases hag with ⟨σk1, hf, h0, hR⟩ | ⟨σk1, hf, h0, hR⟩ | ⟨σk1, hf, h0, hR⟩
  · refine j_aload_n (pc := 1612) g 4 dL_law_1612 rfl ?_
    refine j_aload_n (pc := 1613) g 5 dL_law_1613 rfl ?_
    refine j_iload (pc := 1614) g 0 dL_law_1614 rfl ?_
    refine j_iconst (v := 1) (pc := 1616) g dL_law_1616 (by decide) ?_
    refine j_iadd (pc := 1617) g dL_law_1617 ?_
    refine j_sld (pc := 1618) gl h1 dL_law_1618 ?_
    refine j_aload_n (pc := 1619) g 5 dL_law_1619 rfl ?_
    refine j_iload (pc := 1620) g 0 dL_law_1620 rfl ?_
    refine j_iconst (v := 2) (pc := 1622) g dL_law_1622 (by decide) ?_
    refine j_iadd (pc := 1623) g dL_law_1623 ?_
    refine j_sld (pc := 1624) gl h2 dL_law_1624 ?_
    refine j_aload_n (pc := 1625) g 2 dL_law_1625 rfl ?_
    refine j_callH (pc := 1626) (na := 4) (As := [.ref (ad 0), .int (xs (i + 1).toNatClampNeg), .int (xs (i + 2).toNatClampNeg), .ref o]) (rest := []) (r := 0) (w' := ((o, .inl (t 4, 1, .inr (.inl (vp_updL fo (0 : Int32).toNatClampNeg r.toInt64)))) :: (od, .inl (t 5, 1, .inr (.inr (.inr (.inl fd))))) :: (mC am t σm ++ kW aa ad t σk1 []))) g (hL_greatestSeverity_ok (rs := (od, .inl (t 5, 1, .inr (.inr (.inr (.inl fd))))) :: mC am t σm) hst hf) q_t_L_greatestSeverity q_w_L_greatestSeverity q_l_L_240 q_n_L (by decide) (by decide +kernel) rfl ⟨Nat.le_of_ble_eq_true rfl, Nat.le_of_ble_eq_true rfl⟩ ⟨by omega, by omega⟩ (Nat.le_of_ble_eq_true rfl) (lw_pm_h aa ad am t σk σm _ _) (lw_pm_h aa ad am t σk1 σm _ _).symm dL_law_1626 ?_ rfl
    have hkk : k + 0 ≤ room_1.cells := by omega
    have hnn : n + 0 ≤ room_1.slots := by omega
    refine j_istore (L' := [(6, .int 0), (5, .int i), (4, .ref od), (3, .ref o), (2, .ref (am 0)), (1, .ref (ad 0)), (0, .ref b)]) (pc := 1629) g dL_law_1629 (Nat.le_of_ble_eq_true rfl) rfl ?_
    refine j_aload_n (pc := 1631) g 4 dL_law_1631 rfl ?_
    refine j_aload_n (pc := 1632) g 6 dL_law_1632 rfl ?_
    refine j_iload (pc := 1633) g 1 dL_law_1633 rfl ?_
    refine j_iconst (v := 1) (pc := 1635) g dL_law_1635 (by decide) ?_
    refine j_iadd (pc := 1636) g dL_law_1636 ?_
    refine j_sld (pc := 1637) gl h1 dL_law_1637 ?_
    refine j_aload_n (pc := 1638) g 6 dL_law_1638 rfl ?_
    refine j_iload (pc := 1639) g 1 dL_law_1639 rfl ?_
    refine j_iconst (v := 2) (pc := 1641) g dL_law_1641 (by decide) ?_
    refine j_iadd (pc := 1642) g dL_law_1642 ?_
    refine j_sld (pc := 1643) gl h2 dL_law_1643 ?_
    refine j_callVi (pc := 1644) (na := 2) (As := [.int (xs (i + 1).toNatClampNeg), .int (xs (i + 2).toNatClampNeg)]) (rest := []) (q0 := 2) (ci := 10) (w' := ((o, .inl (t 4, 1, .inr (.inl (vp_updL fo (0 : Int32).toNatClampNeg r.toInt64)))) :: (od, .inl (t 5, 1, .inr (.inr (.inr (.inl fd))))) :: (mC am t σm1 ++ kW aa ad t σk1 []))) g (cX9_greatestSeverity_ (rs := (o, .inl (t 4, 1, .inr (.inl (vp_updL fo (0 : Int32).toNatClampNeg r.toInt64)))) :: (od, .inl (t 5, 1, .inr (.inr (.inr (.inl fd))))) :: kW aa ad t σk1 []) hm) q_i_X9_greatestSeverity q_s_X9_greatestSeverity rfl rfl rfl q_c_X9_greatestSeverity q_l_L_242 q_n_X9 (by decide +kernel) rfl ⟨Nat.le_of_ble_eq_true rfl, Nat.le_of_ble_eq_true rfl⟩ ⟨hkk, hnn⟩ (Nat.le_of_ble_eq_true rfl) (lw_pm_m aa ad am t σk1 σm _ _) (lw_pm_m aa ad am t σk1 σm1 _ _).symm dL_law_1644 ?_ rfl
    refine j_istore (L' := [(7, .int r), (6, .int 0), (5, .int i), (4, .ref od), (3, .ref o), (2, .ref (am 0)), (1, .ref (ad 0)), (0, .ref b)]) (pc := 1647) g dL_law_1647 (Nat.le_of_ble_eq_true rfl) rfl ?_
    refine j_aload_n (pc := 1649) g 5 dL_law_1649 rfl ?_
    refine j_callVi (pc := 1650) (na := 0) (As := []) (rest := []) (q0 := 2) (ci := 10) (w' := ((o, .inl (t 4, 1, .inr (.inl (vp_updL fo (0 : Int32).toNatClampNeg r.toInt64)))) :: (od, .inl (t 5, 1, .inr (.inr (.inr (.inl fd))))) :: (mC am t σm1 ++ kW aa ad t σk1 []))) g (cX9_thrown_ (rs := (o, .inl (t 4, 1, .inr (.inl (vp_updL fo (0 : Int32).toNatClampNeg r.toInt64)))) :: (od, .inl (t 5, 1, .inr (.inr (.inr (.inl fd))))) :: kW aa ad t σk1 []) rfl) q_i_X9_thrown q_s_X9_thrown rfl rfl rfl q_c_X9_thrown q_l_L_155 q_n_X9 (by decide +kernel) rfl ⟨Nat.le_of_ble_eq_true rfl, Nat.le_of_ble_eq_true rfl⟩ ⟨hkk, hnn⟩ (Nat.le_of_ble_eq_true rfl) (lw_pm_m aa ad am t σk1 σm1 _ _) (lw_pm_m aa ad am t σk1 σm1 _ _).symm dL_law_1650 ?_ rfl
    refine j_iload (pc := 1653) g 1 dL_law_1653 rfl ?_
    refine j_icmp_eq (tgt := 1660) (pc := 1655) g dL_law_1655 (by decide) (fun _ => ?_) (fun h9 => absurd h0 h9)
    refine j_iload (pc := 1660) g 1 dL_law_1660 rfl ?_
    refine j_if_ne (tgt := 1677) (pc := 1662) g dL_law_1662 (by decide) (fun h9 => absurd rfl h9) (fun _ => ?_)
    refine j_aload_n (pc := 1665) g 4 dL_law_1665 rfl ?_
    refine j_iconst (v := 0) (pc := 1666) g dL_law_1666 (by decide) ?_
    refine j_lald (pc := 1667) g 0 rfl (show gx_in (0 : Int32) 1 by decide) dL_law_1667 ?_
    refine j_iload (pc := 1668) g 0 dL_law_1668 rfl ?_
    refine j_i2l (pc := 1670) g dL_law_1670 ?_
    refine j_lcmp (pc := 1671) g dL_law_1671 ?_
    refine j_if_eq (tgt := 1677) (pc := 1672) g dL_law_1672 (by decide) (fun _ => ?_) (fun h9 => absurd (lw_cmp0 _) h9)
    refine j_goto (tgt := 2781) (pc := 1677) g dL_law_1677 (by decide) ?_
    refine j_sub (pc := 2781) g [2, 3, 4, 5, 6, 7] rfl ?_
    exact j_widen g (by omega) (by omega) (next σk1 σm1 (vp_updL fo (0 : Int32).toNatClampNeg r.toInt64) fd hR)
  · refine j_aload_n (pc := 1612) g 4 dL_law_1612 rfl ?_
    refine j_aload_n (pc := 1613) g 5 dL_law_1613 rfl ?_
    refine j_iload (pc := 1614) g 0 dL_law_1614 rfl ?_
    refine j_iconst (v := 1) (pc := 1616) g dL_law_1616 (by decide) ?_
    refine j_iadd (pc := 1617) g dL_law_1617 ?_
    refine j_sld (pc := 1618) gl h1 dL_law_1618 ?_
    refine j_aload_n (pc := 1619) g 5 dL_law_1619 rfl ?_
    refine j_iload (pc := 1620) g 0 dL_law_1620 rfl ?_
    refine j_iconst (v := 2) (pc := 1622) g dL_law_1622 (by decide) ?_
    refine j_iadd (pc := 1623) g dL_law_1623 ?_
    refine j_sld (pc := 1624) gl h2 dL_law_1624 ?_
    refine j_aload_n (pc := 1625) g 2 dL_law_1625 rfl ?_
    refine j_callH (pc := 1626) (na := 4) (As := [.ref (ad 0), .int (xs (i + 1).toNatClampNeg), .int (xs (i + 2).toNatClampNeg), .ref o]) (rest := []) (r := 1) (w' := ((o, .inl (t 4, 1, .inr (.inl fo))) :: (od, .inl (t 5, 1, .inr (.inr (.inr (.inl fd))))) :: (mC am t σm ++ kW aa ad t σk1 []))) g (hL_greatestSeverity_x1 (rs := (od, .inl (t 5, 1, .inr (.inr (.inr (.inl fd))))) :: mC am t σm) hst hf) q_t_L_greatestSeverity q_w_L_greatestSeverity q_l_L_240 q_n_L (by decide) (by decide +kernel) rfl ⟨Nat.le_of_ble_eq_true rfl, Nat.le_of_ble_eq_true rfl⟩ ⟨by omega, by omega⟩ (Nat.le_of_ble_eq_true rfl) (lw_pm_h aa ad am t σk σm _ _) (lw_pm_h aa ad am t σk1 σm _ _).symm dL_law_1626 ?_ rfl
    have hkk : k + 1 ≤ room_1.cells := by omega
    have hnn : n + 6 ≤ room_1.slots := by omega
    refine j_istore (L' := [(6, .int 1), (5, .int i), (4, .ref od), (3, .ref o), (2, .ref (am 0)), (1, .ref (ad 0)), (0, .ref b)]) (pc := 1629) g dL_law_1629 (Nat.le_of_ble_eq_true rfl) rfl ?_
    refine j_aload_n (pc := 1631) g 4 dL_law_1631 rfl ?_
    refine j_aload_n (pc := 1632) g 6 dL_law_1632 rfl ?_
    refine j_iload (pc := 1633) g 1 dL_law_1633 rfl ?_
    refine j_iconst (v := 1) (pc := 1635) g dL_law_1635 (by decide) ?_
    refine j_iadd (pc := 1636) g dL_law_1636 ?_
    refine j_sld (pc := 1637) gl h1 dL_law_1637 ?_
    refine j_aload_n (pc := 1638) g 6 dL_law_1638 rfl ?_
    refine j_iload (pc := 1639) g 1 dL_law_1639 rfl ?_
    refine j_iconst (v := 2) (pc := 1641) g dL_law_1641 (by decide) ?_
    refine j_iadd (pc := 1642) g dL_law_1642 ?_
    refine j_sld (pc := 1643) gl h2 dL_law_1643 ?_
    refine j_callVi (pc := 1644) (na := 2) (As := [.int (xs (i + 1).toNatClampNeg), .int (xs (i + 2).toNatClampNeg)]) (rest := []) (q0 := 2) (ci := 10) (w' := ((o, .inl (t 4, 1, .inr (.inl fo))) :: (od, .inl (t 5, 1, .inr (.inr (.inr (.inl fd))))) :: (mC am t σm1 ++ kW aa ad t σk1 []))) g (cX9_greatestSeverity_ (rs := (o, .inl (t 4, 1, .inr (.inl fo))) :: (od, .inl (t 5, 1, .inr (.inr (.inr (.inl fd))))) :: kW aa ad t σk1 []) hm) q_i_X9_greatestSeverity q_s_X9_greatestSeverity rfl rfl rfl q_c_X9_greatestSeverity q_l_L_242 q_n_X9 (by decide +kernel) rfl ⟨Nat.le_of_ble_eq_true rfl, Nat.le_of_ble_eq_true rfl⟩ ⟨hkk, hnn⟩ (Nat.le_of_ble_eq_true rfl) (lw_pm_m aa ad am t σk1 σm _ _) (lw_pm_m aa ad am t σk1 σm1 _ _).symm dL_law_1644 ?_ rfl
    refine j_istore (L' := [(7, .int r), (6, .int 1), (5, .int i), (4, .ref od), (3, .ref o), (2, .ref (am 0)), (1, .ref (ad 0)), (0, .ref b)]) (pc := 1647) g dL_law_1647 (Nat.le_of_ble_eq_true rfl) rfl ?_
    refine j_aload_n (pc := 1649) g 5 dL_law_1649 rfl ?_
    refine j_callVi (pc := 1650) (na := 0) (As := []) (rest := []) (q0 := 2) (ci := 10) (w' := ((o, .inl (t 4, 1, .inr (.inl fo))) :: (od, .inl (t 5, 1, .inr (.inr (.inr (.inl fd))))) :: (mC am t σm1 ++ kW aa ad t σk1 []))) g (cX9_thrown_ (rs := (o, .inl (t 4, 1, .inr (.inl fo))) :: (od, .inl (t 5, 1, .inr (.inr (.inr (.inl fd))))) :: kW aa ad t σk1 []) rfl) q_i_X9_thrown q_s_X9_thrown rfl rfl rfl q_c_X9_thrown q_l_L_155 q_n_X9 (by decide +kernel) rfl ⟨Nat.le_of_ble_eq_true rfl, Nat.le_of_ble_eq_true rfl⟩ ⟨hkk, hnn⟩ (Nat.le_of_ble_eq_true rfl) (lw_pm_m aa ad am t σk1 σm1 _ _) (lw_pm_m aa ad am t σk1 σm1 _ _).symm dL_law_1650 ?_ rfl
    refine j_iload (pc := 1653) g 1 dL_law_1653 rfl ?_
    refine j_icmp_eq (tgt := 1660) (pc := 1655) g dL_law_1655 (by decide) (fun _ => ?_) (fun h9 => absurd h0 h9)
    refine j_iload (pc := 1660) g 1 dL_law_1660 rfl ?_
    refine j_if_ne (tgt := 1677) (pc := 1662) g dL_law_1662 (by decide) (fun _ => ?_) (fun h9 => absurd h9 (by decide))
    refine j_goto (tgt := 2781) (pc := 1677) g dL_law_1677 (by decide) ?_
    refine j_sub (pc := 2781) g [2, 3, 4, 5, 6, 7] rfl ?_
    exact j_widen g (by omega) (by omega) (next σk1 σm1 fo fd hR)
  · refine j_aload_n (pc := 1612) g 4 dL_law_1612 rfl ?_
    refine j_aload_n (pc := 1613) g 5 dL_law_1613 rfl ?_
    refine j_iload (pc := 1614) g 0 dL_law_1614 rfl ?_
    refine j_iconst (v := 1) (pc := 1616) g dL_law_1616 (by decide) ?_
    refine j_iadd (pc := 1617) g dL_law_1617 ?_
    refine j_sld (pc := 1618) gl h1 dL_law_1618 ?_
    refine j_aload_n (pc := 1619) g 5 dL_law_1619 rfl ?_
    refine j_iload (pc := 1620) g 0 dL_law_1620 rfl ?_
    refine j_iconst (v := 2) (pc := 1622) g dL_law_1622 (by decide) ?_
    refine j_iadd (pc := 1623) g dL_law_1623 ?_
    refine j_sld (pc := 1624) gl h2 dL_law_1624 ?_
    refine j_aload_n (pc := 1625) g 2 dL_law_1625 rfl ?_
    refine j_callH (pc := 1626) (na := 4) (As := [.ref (ad 0), .int (xs (i + 1).toNatClampNeg), .int (xs (i + 2).toNatClampNeg), .ref o]) (rest := []) (r := 2) (w' := ((o, .inl (t 4, 1, .inr (.inl fo))) :: (od, .inl (t 5, 1, .inr (.inr (.inr (.inl fd))))) :: (mC am t σm ++ kW aa ad t σk1 []))) g (hL_greatestSeverity_x2 (rs := (od, .inl (t 5, 1, .inr (.inr (.inr (.inl fd))))) :: mC am t σm) hst hf) q_t_L_greatestSeverity q_w_L_greatestSeverity q_l_L_240 q_n_L (by decide) (by decide +kernel) rfl ⟨Nat.le_of_ble_eq_true rfl, Nat.le_of_ble_eq_true rfl⟩ ⟨by omega, by omega⟩ (Nat.le_of_ble_eq_true rfl) (lw_pm_h aa ad am t σk σm _ _) (lw_pm_h aa ad am t σk1 σm _ _).symm dL_law_1626 ?_ rfl
    have hkk : k + 1 ≤ room_1.cells := by omega
    have hnn : n + 6 ≤ room_1.slots := by omega
    refine j_istore (L' := [(6, .int 2), (5, .int i), (4, .ref od), (3, .ref o), (2, .ref (am 0)), (1, .ref (ad 0)), (0, .ref b)]) (pc := 1629) g dL_law_1629 (Nat.le_of_ble_eq_true rfl) rfl ?_
    refine j_aload_n (pc := 1631) g 4 dL_law_1631 rfl ?_
    refine j_aload_n (pc := 1632) g 6 dL_law_1632 rfl ?_
    refine j_iload (pc := 1633) g 1 dL_law_1633 rfl ?_
    refine j_iconst (v := 1) (pc := 1635) g dL_law_1635 (by decide) ?_
    refine j_iadd (pc := 1636) g dL_law_1636 ?_
    refine j_sld (pc := 1637) gl h1 dL_law_1637 ?_
    refine j_aload_n (pc := 1638) g 6 dL_law_1638 rfl ?_
    refine j_iload (pc := 1639) g 1 dL_law_1639 rfl ?_
    refine j_iconst (v := 2) (pc := 1641) g dL_law_1641 (by decide) ?_
    refine j_iadd (pc := 1642) g dL_law_1642 ?_
    refine j_sld (pc := 1643) gl h2 dL_law_1643 ?_
    refine j_callVi (pc := 1644) (na := 2) (As := [.int (xs (i + 1).toNatClampNeg), .int (xs (i + 2).toNatClampNeg)]) (rest := []) (q0 := 2) (ci := 10) (w' := ((o, .inl (t 4, 1, .inr (.inl fo))) :: (od, .inl (t 5, 1, .inr (.inr (.inr (.inl fd))))) :: (mC am t σm1 ++ kW aa ad t σk1 []))) g (cX9_greatestSeverity_ (rs := (o, .inl (t 4, 1, .inr (.inl fo))) :: (od, .inl (t 5, 1, .inr (.inr (.inr (.inl fd))))) :: kW aa ad t σk1 []) hm) q_i_X9_greatestSeverity q_s_X9_greatestSeverity rfl rfl rfl q_c_X9_greatestSeverity q_l_L_242 q_n_X9 (by decide +kernel) rfl ⟨Nat.le_of_ble_eq_true rfl, Nat.le_of_ble_eq_true rfl⟩ ⟨hkk, hnn⟩ (Nat.le_of_ble_eq_true rfl) (lw_pm_m aa ad am t σk1 σm _ _) (lw_pm_m aa ad am t σk1 σm1 _ _).symm dL_law_1644 ?_ rfl
    refine j_istore (L' := [(7, .int r), (6, .int 2), (5, .int i), (4, .ref od), (3, .ref o), (2, .ref (am 0)), (1, .ref (ad 0)), (0, .ref b)]) (pc := 1647) g dL_law_1647 (Nat.le_of_ble_eq_true rfl) rfl ?_
    refine j_aload_n (pc := 1649) g 5 dL_law_1649 rfl ?_
    refine j_callVi (pc := 1650) (na := 0) (As := []) (rest := []) (q0 := 2) (ci := 10) (w' := ((o, .inl (t 4, 1, .inr (.inl fo))) :: (od, .inl (t 5, 1, .inr (.inr (.inr (.inl fd))))) :: (mC am t σm1 ++ kW aa ad t σk1 []))) g (cX9_thrown_ (rs := (o, .inl (t 4, 1, .inr (.inl fo))) :: (od, .inl (t 5, 1, .inr (.inr (.inr (.inl fd))))) :: kW aa ad t σk1 []) rfl) q_i_X9_thrown q_s_X9_thrown rfl rfl rfl q_c_X9_thrown q_l_L_155 q_n_X9 (by decide +kernel) rfl ⟨Nat.le_of_ble_eq_true rfl, Nat.le_of_ble_eq_true rfl⟩ ⟨hkk, hnn⟩ (Nat.le_of_ble_eq_true rfl) (lw_pm_m aa ad am t σk1 σm1 _ _) (lw_pm_m aa ad am t σk1 σm1 _ _).symm dL_law_1650 ?_ rfl
    refine j_iload (pc := 1653) g 1 dL_law_1653 rfl ?_
    refine j_icmp_eq (tgt := 1660) (pc := 1655) g dL_law_1655 (by decide) (fun _ => ?_) (fun h9 => absurd h0 h9)
    refine j_iload (pc := 1660) g 1 dL_law_1660 rfl ?_
    refine j_if_ne (tgt := 1677) (pc := 1662) g dL_law_1662 (by decide) (fun _ => ?_) (fun h9 => absurd h9 (by decide))
    refine j_goto (tgt := 2781) (pc := 1677) g dL_law_1677 (by decide) ?_
    refine j_sub (pc := 2781) g [2, 3, 4, 5, 6, 7] rfl ?_
    exact j_widen g (by omega) (by omega) (next σk1 σm1 fo fd hR)
set_option maxRecDepth 100000 in
set_option maxHeartbeats 4000000 in
theorem lw_c26 {D : va_G} {t : Nat → ClassId} {aa : gx_AA} {l : Launch} {J : gx_J} {b Ln : Nat} {xs : Nat → Int32} (gl : gx_GL D t (gx_E0 aa) l room_1 cL_law RL 10 J b Ln xs) (hst : l.stackTraces = false) {k n : Nat} (hk : k + 1 ≤ room_1.cells) (hn : n + 6 ≤ room_1.slots) {i : Int32} (h1 : vp_in (i + 1) Ln) (h2 : vp_in (i + 2) Ln) (h3 : vp_in (i + 3) Ln) {ad am : Nat → Nat} {o od : Nat} {σk : CS} {σm : OS} {fo : Nat → Int64} {fd : Nat → UInt64} {R : CS → OS → Prop} (hag : Ag_greatestSeverityByTrial R σk σm (xs (i + 1).toNatClampNeg) (xs (i + 2).toNatClampNeg)) (next : ∀ (σk2 : CS) (σm2 : OS) (fo2 : Nat → Int64) (fd2 : Nat → UInt64), R σk2 σm2 → J (k + 1) (n + 6) ((o, .inl (t 4, 1, .inr (.inl fo2))) :: (od, .inl (t 5, 1, .inr (.inr (.inr (.inl fd2))))) :: (mC am t σm2 ++ kW aa ad t σk2 [])) 2781 [(5, .int i), (4, .ref od), (3, .ref o), (2, .ref (am 0)), (1, .ref (ad 0)), (0, .ref b)] []) : J k n ((o, .inl (t 4, 1, .inr (.inl fo))) :: (od, .inl (t 5, 1, .inr (.inr (.inr (.inl fd))))) :: (mC am t σm ++ kW aa ad t σk [])) 1680 [(5, .int i), (4, .ref od), (3, .ref o), (2, .ref (am 0)), (1, .ref (ad 0)), (0, .ref b)] [] := by
  have g := gl.g
  have hkk : k ≤ room_1.cells := by omega
  have hnn : n ≤ room_1.slots := by omega
  obtain ⟨r, σm1, hm, hag⟩ := hag
  rcases hag with ⟨σk1, hf, h0, hR⟩ | ⟨σk1, hf, h0, hR⟩ | ⟨σk1, hf, h0, hR⟩
  · refine j_aload_n (pc := 1680) g 4 dL_law_1680 rfl ?_
    refine j_aload_n (pc := 1681) g 5 dL_law_1681 rfl ?_
    refine j_iload (pc := 1682) g 0 dL_law_1682 rfl ?_
    refine j_iconst (v := 1) (pc := 1684) g dL_law_1684 (by decide) ?_
    refine j_iadd (pc := 1685) g dL_law_1685 ?_
    refine j_sld (pc := 1686) gl h1 dL_law_1686 ?_
    refine j_aload_n (pc := 1687) g 5 dL_law_1687 rfl ?_
    refine j_iload (pc := 1688) g 0 dL_law_1688 rfl ?_
    refine j_iconst (v := 2) (pc := 1690) g dL_law_1690 (by decide) ?_
    refine j_iadd (pc := 1691) g dL_law_1691 ?_
    refine j_sld (pc := 1692) gl h2 dL_law_1692 ?_
    refine j_aload_n (pc := 1693) g 2 dL_law_1693 rfl ?_
    refine j_callH (pc := 1694) (na := 4) (As := [.ref (ad 0), .int (xs (i + 1).toNatClampNeg), .int (xs (i + 2).toNatClampNeg), .ref o]) (rest := []) (r := 0) (w' := ((o, .inl (t 4, 1, .inr (.inl (vp_updL fo (0 : Int32).toNatClampNeg r.toInt64)))) :: (od, .inl (t 5, 1, .inr (.inr (.inr (.inl fd))))) :: (mC am t σm ++ kW aa ad t σk1 []))) g (hL_greatestSeverityByTrial_ok (rs := (od, .inl (t 5, 1, .inr (.inr (.inr (.inl fd))))) :: mC am t σm) hst hf) q_t_L_greatestSeverityByTrial q_w_L_greatestSeverityByTrial q_l_L_243 q_n_L (by decide) (by decide +kernel) rfl ⟨Nat.le_of_ble_eq_true rfl, Nat.le_of_ble_eq_true rfl⟩ ⟨by omega, by omega⟩ (Nat.le_of_ble_eq_true rfl) (lw_pm_h aa ad am t σk σm _ _) (lw_pm_h aa ad am t σk1 σm _ _).symm dL_law_1694 ?_ rfl
    have hkk : k + 0 ≤ room_1.cells := by omega
    have hnn : n + 0 ≤ room_1.slots := by omega
    refine j_istore (L' := [(6, .int 0), (5, .int i), (4, .ref od), (3, .ref o), (2, .ref (am 0)), (1, .ref (ad 0)), (0, .ref b)]) (pc := 1697) g dL_law_1697 (Nat.le_of_ble_eq_true rfl) rfl ?_
    refine j_aload_n (pc := 1699) g 4 dL_law_1699 rfl ?_
    refine j_aload_n (pc := 1700) g 6 dL_law_1700 rfl ?_
    refine j_iload (pc := 1701) g 1 dL_law_1701 rfl ?_
    refine j_iconst (v := 1) (pc := 1703) g dL_law_1703 (by decide) ?_
    refine j_iadd (pc := 1704) g dL_law_1704 ?_
    refine j_sld (pc := 1705) gl h1 dL_law_1705 ?_
    refine j_aload_n (pc := 1706) g 6 dL_law_1706 rfl ?_
    refine j_iload (pc := 1707) g 1 dL_law_1707 rfl ?_
    refine j_iconst (v := 2) (pc := 1709) g dL_law_1709 (by decide) ?_
    refine j_iadd (pc := 1710) g dL_law_1710 ?_
    refine j_sld (pc := 1711) gl h2 dL_law_1711 ?_
    refine j_callVi (pc := 1712) (na := 2) (As := [.int (xs (i + 1).toNatClampNeg), .int (xs (i + 2).toNatClampNeg)]) (rest := []) (q0 := 2) (ci := 10) (w' := ((o, .inl (t 4, 1, .inr (.inl (vp_updL fo (0 : Int32).toNatClampNeg r.toInt64)))) :: (od, .inl (t 5, 1, .inr (.inr (.inr (.inl fd))))) :: (mC am t σm1 ++ kW aa ad t σk1 []))) g (cX9_greatestSeverityByTrial_ (rs := (o, .inl (t 4, 1, .inr (.inl (vp_updL fo (0 : Int32).toNatClampNeg r.toInt64)))) :: (od, .inl (t 5, 1, .inr (.inr (.inr (.inl fd))))) :: kW aa ad t σk1 []) hm) q_i_X9_greatestSeverityByTrial q_s_X9_greatestSeverityByTrial rfl rfl rfl q_c_X9_greatestSeverityByTrial q_l_L_245 q_n_X9 (by decide +kernel) rfl ⟨Nat.le_of_ble_eq_true rfl, Nat.le_of_ble_eq_true rfl⟩ ⟨hkk, hnn⟩ (Nat.le_of_ble_eq_true rfl) (lw_pm_m aa ad am t σk1 σm _ _) (lw_pm_m aa ad am t σk1 σm1 _ _).symm dL_law_1712 ?_ rfl
    refine j_istore (L' := [(7, .int r), (6, .int 0), (5, .int i), (4, .ref od), (3, .ref o), (2, .ref (am 0)), (1, .ref (ad 0)), (0, .ref b)]) (pc := 1715) g dL_law_1715 (Nat.le_of_ble_eq_true rfl) rfl ?_
    refine j_aload_n (pc := 1717) g 5 dL_law_1717 rfl ?_
    refine j_callVi (pc := 1718) (na := 0) (As := []) (rest := []) (q0 := 2) (ci := 10) (w' := ((o, .inl (t 4, 1, .inr (.inl (vp_updL fo (0 : Int32).toNatClampNeg r.toInt64)))) :: (od, .inl (t 5, 1, .inr (.inr (.inr (.inl fd))))) :: (mC am t σm1 ++ kW aa ad t σk1 []))) g (cX9_thrown_ (rs := (o, .inl (t 4, 1, .inr (.inl (vp_updL fo (0 : Int32).toNatClampNeg r.toInt64)))) :: (od, .inl (t 5, 1, .inr (.inr (.inr (.inl fd))))) :: kW aa ad t σk1 []) rfl) q_i_X9_thrown q_s_X9_thrown rfl rfl rfl q_c_X9_thrown q_l_L_155 q_n_X9 (by decide +kernel) rfl ⟨Nat.le_of_ble_eq_true rfl, Nat.le_of_ble_eq_true rfl⟩ ⟨hkk, hnn⟩ (Nat.le_of_ble_eq_true rfl) (lw_pm_m aa ad am t σk1 σm1 _ _) (lw_pm_m aa ad am t σk1 σm1 _ _).symm dL_law_1718 ?_ rfl
    refine j_iload (pc := 1721) g 1 dL_law_1721 rfl ?_
    refine j_icmp_eq (tgt := 1728) (pc := 1723) g dL_law_1723 (by decide) (fun _ => ?_) (fun h9 => absurd h0 h9)
    refine j_iload (pc := 1728) g 1 dL_law_1728 rfl ?_
    refine j_if_ne (tgt := 1745) (pc := 1730) g dL_law_1730 (by decide) (fun h9 => absurd rfl h9) (fun _ => ?_)
    refine j_aload_n (pc := 1733) g 4 dL_law_1733 rfl ?_
    refine j_iconst (v := 0) (pc := 1734) g dL_law_1734 (by decide) ?_
    refine j_lald (pc := 1735) g 0 rfl (show gx_in (0 : Int32) 1 by decide) dL_law_1735 ?_
    refine j_iload (pc := 1736) g 0 dL_law_1736 rfl ?_
    refine j_i2l (pc := 1738) g dL_law_1738 ?_
    refine j_lcmp (pc := 1739) g dL_law_1739 ?_
    refine j_if_eq (tgt := 1745) (pc := 1740) g dL_law_1740 (by decide) (fun _ => ?_) (fun h9 => absurd (lw_cmp0 _) h9)
    refine j_goto (tgt := 2781) (pc := 1745) g dL_law_1745 (by decide) ?_
    refine j_sub (pc := 2781) g [2, 3, 4, 5, 6, 7] rfl ?_
    exact j_widen g (by omega) (by omega) (next σk1 σm1 (vp_updL fo (0 : Int32).toNatClampNeg r.toInt64) fd hR)
  · refine j_aload_n (pc := 1680) g 4 dL_law_1680 rfl ?_
    refine j_aload_n (pc := 1681) g 5 dL_law_1681 rfl ?_
    refine j_iload (pc := 1682) g 0 dL_law_1682 rfl ?_
    refine j_iconst (v := 1) (pc := 1684) g dL_law_1684 (by decide) ?_
    refine j_iadd (pc := 1685) g dL_law_1685 ?_
    refine j_sld (pc := 1686) gl h1 dL_law_1686 ?_
    refine j_aload_n (pc := 1687) g 5 dL_law_1687 rfl ?_
    refine j_iload (pc := 1688) g 0 dL_law_1688 rfl ?_
    refine j_iconst (v := 2) (pc := 1690) g dL_law_1690 (by decide) ?_
    refine j_iadd (pc := 1691) g dL_law_1691 ?_
    refine j_sld (pc := 1692) gl h2 dL_law_1692 ?_
    refine j_aload_n (pc := 1693) g 2 dL_law_1693 rfl ?_
    refine j_callH (pc := 1694) (na := 4) (As := [.ref (ad 0), .int (xs (i + 1).toNatClampNeg), .int (xs (i + 2).toNatClampNeg), .ref o]) (rest := []) (r := 1) (w' := ((o, .inl (t 4, 1, .inr (.inl fo))) :: (od, .inl (t 5, 1, .inr (.inr (.inr (.inl fd))))) :: (mC am t σm ++ kW aa ad t σk1 []))) g (hL_greatestSeverityByTrial_x1 (rs := (od, .inl (t 5, 1, .inr (.inr (.inr (.inl fd))))) :: mC am t σm) hst hf) q_t_L_greatestSeverityByTrial q_w_L_greatestSeverityByTrial q_l_L_243 q_n_L (by decide) (by decide +kernel) rfl ⟨Nat.le_of_ble_eq_true rfl, Nat.le_of_ble_eq_true rfl⟩ ⟨by omega, by omega⟩ (Nat.le_of_ble_eq_true rfl) (lw_pm_h aa ad am t σk σm _ _) (lw_pm_h aa ad am t σk1 σm _ _).symm dL_law_1694 ?_ rfl
    have hkk : k + 1 ≤ room_1.cells := by omega
    have hnn : n + 6 ≤ room_1.slots := by omega
    refine j_istore (L' := [(6, .int 1), (5, .int i), (4, .ref od), (3, .ref o), (2, .ref (am 0)), (1, .ref (ad 0)), (0, .ref b)]) (pc := 1697) g dL_law_1697 (Nat.le_of_ble_eq_true rfl) rfl ?_
    refine j_aload_n (pc := 1699) g 4 dL_law_1699 rfl ?_
    refine j_aload_n (pc := 1700) g 6 dL_law_1700 rfl ?_
    refine j_iload (pc := 1701) g 1 dL_law_1701 rfl ?_
    refine j_iconst (v := 1) (pc := 1703) g dL_law_1703 (by decide) ?_
    refine j_iadd (pc := 1704) g dL_law_1704 ?_
    refine j_sld (pc := 1705) gl h1 dL_law_1705 ?_
    refine j_aload_n (pc := 1706) g 6 dL_law_1706 rfl ?_
    refine j_iload (pc := 1707) g 1 dL_law_1707 rfl ?_
    refine j_iconst (v := 2) (pc := 1709) g dL_law_1709 (by decide) ?_
    refine j_iadd (pc := 1710) g dL_law_1710 ?_
    refine j_sld (pc := 1711) gl h2 dL_law_1711 ?_
    refine j_callVi (pc := 1712) (na := 2) (As := [.int (xs (i + 1).toNatClampNeg), .int (xs (i + 2).toNatClampNeg)]) (rest := []) (q0 := 2) (ci := 10) (w' := ((o, .inl (t 4, 1, .inr (.inl fo))) :: (od, .inl (t 5, 1, .inr (.inr (.inr (.inl fd))))) :: (mC am t σm1 ++ kW aa ad t σk1 []))) g (cX9_greatestSeverityByTrial_ (rs := (o, .inl (t 4, 1, .inr (.inl fo))) :: (od, .inl (t 5, 1, .inr (.inr (.inr (.inl fd))))) :: kW aa ad t σk1 []) hm) q_i_X9_greatestSeverityByTrial q_s_X9_greatestSeverityByTrial rfl rfl rfl q_c_X9_greatestSeverityByTrial q_l_L_245 q_n_X9 (by decide +kernel) rfl ⟨Nat.le_of_ble_eq_true rfl, Nat.le_of_ble_eq_true rfl⟩ ⟨hkk, hnn⟩ (Nat.le_of_ble_eq_true rfl) (lw_pm_m aa ad am t σk1 σm _ _) (lw_pm_m aa ad am t σk1 σm1 _ _).symm dL_law_1712 ?_ rfl
    refine j_istore (L' := [(7, .int r), (6, .int 1), (5, .int i), (4, .ref od), (3, .ref o), (2, .ref (am 0)), (1, .ref (ad 0)), (0, .ref b)]) (pc := 1715) g dL_law_1715 (Nat.le_of_ble_eq_true rfl) rfl ?_
    refine j_aload_n (pc := 1717) g 5 dL_law_1717 rfl ?_
    refine j_callVi (pc := 1718) (na := 0) (As := []) (rest := []) (q0 := 2) (ci := 10) (w' := ((o, .inl (t 4, 1, .inr (.inl fo))) :: (od, .inl (t 5, 1, .inr (.inr (.inr (.inl fd))))) :: (mC am t σm1 ++ kW aa ad t σk1 []))) g (cX9_thrown_ (rs := (o, .inl (t 4, 1, .inr (.inl fo))) :: (od, .inl (t 5, 1, .inr (.inr (.inr (.inl fd))))) :: kW aa ad t σk1 []) rfl) q_i_X9_thrown q_s_X9_thrown rfl rfl rfl q_c_X9_thrown q_l_L_155 q_n_X9 (by decide +kernel) rfl ⟨Nat.le_of_ble_eq_true rfl, Nat.le_of_ble_eq_true rfl⟩ ⟨hkk, hnn⟩ (Nat.le_of_ble_eq_true rfl) (lw_pm_m aa ad am t σk1 σm1 _ _) (lw_pm_m aa ad am t σk1 σm1 _ _).symm dL_law_1718 ?_ rfl
    refine j_iload (pc := 1721) g 1 dL_law_1721 rfl ?_
    refine j_icmp_eq (tgt := 1728) (pc := 1723) g dL_law_1723 (by decide) (fun _ => ?_) (fun h9 => absurd h0 h9)
    refine j_iload (pc := 1728) g 1 dL_law_1728 rfl ?_
    refine j_if_ne (tgt := 1745) (pc := 1730) g dL_law_1730 (by decide) (fun _ => ?_) (fun h9 => absurd h9 (by decide))
    refine j_goto (tgt := 2781) (pc := 1745) g dL_law_1745 (by decide) ?_
    refine j_sub (pc := 2781) g [2, 3, 4, 5, 6, 7] rfl ?_
    exact j_widen g (by omega) (by omega) (next σk1 σm1 fo fd hR)
  · refine j_aload_n (pc := 1680) g 4 dL_law_1680 rfl ?_
    refine j_aload_n (pc := 1681) g 5 dL_law_1681 rfl ?_
    refine j_iload (pc := 1682) g 0 dL_law_1682 rfl ?_
    refine j_iconst (v := 1) (pc := 1684) g dL_law_1684 (by decide) ?_
    refine j_iadd (pc := 1685) g dL_law_1685 ?_
    refine j_sld (pc := 1686) gl h1 dL_law_1686 ?_
    refine j_aload_n (pc := 1687) g 5 dL_law_1687 rfl ?_
    refine j_iload (pc := 1688) g 0 dL_law_1688 rfl ?_
    refine j_iconst (v := 2) (pc := 1690) g dL_law_1690 (by decide) ?_
    refine j_iadd (pc := 1691) g dL_law_1691 ?_
    refine j_sld (pc := 1692) gl h2 dL_law_1692 ?_
    refine j_aload_n (pc := 1693) g 2 dL_law_1693 rfl ?_
    refine j_callH (pc := 1694) (na := 4) (As := [.ref (ad 0), .int (xs (i + 1).toNatClampNeg), .int (xs (i + 2).toNatClampNeg), .ref o]) (rest := []) (r := 2) (w' := ((o, .inl (t 4, 1, .inr (.inl fo))) :: (od, .inl (t 5, 1, .inr (.inr (.inr (.inl fd))))) :: (mC am t σm ++ kW aa ad t σk1 []))) g (hL_greatestSeverityByTrial_x2 (rs := (od, .inl (t 5, 1, .inr (.inr (.inr (.inl fd))))) :: mC am t σm) hst hf) q_t_L_greatestSeverityByTrial q_w_L_greatestSeverityByTrial q_l_L_243 q_n_L (by decide) (by decide +kernel) rfl ⟨Nat.le_of_ble_eq_true rfl, Nat.le_of_ble_eq_true rfl⟩ ⟨by omega, by omega⟩ (Nat.le_of_ble_eq_true rfl) (lw_pm_h aa ad am t σk σm _ _) (lw_pm_h aa ad am t σk1 σm _ _).symm dL_law_1694 ?_ rfl
    have hkk : k + 1 ≤ room_1.cells := by omega
    have hnn : n + 6 ≤ room_1.slots := by omega
    refine j_istore (L' := [(6, .int 2), (5, .int i), (4, .ref od), (3, .ref o), (2, .ref (am 0)), (1, .ref (ad 0)), (0, .ref b)]) (pc := 1697) g dL_law_1697 (Nat.le_of_ble_eq_true rfl) rfl ?_
    refine j_aload_n (pc := 1699) g 4 dL_law_1699 rfl ?_
    refine j_aload_n (pc := 1700) g 6 dL_law_1700 rfl ?_
    refine j_iload (pc := 1701) g 1 dL_law_1701 rfl ?_
    refine j_iconst (v := 1) (pc := 1703) g dL_law_1703 (by decide) ?_
    refine j_iadd (pc := 1704) g dL_law_1704 ?_
    refine j_sld (pc := 1705) gl h1 dL_law_1705 ?_
    refine j_aload_n (pc := 1706) g 6 dL_law_1706 rfl ?_
    refine j_iload (pc := 1707) g 1 dL_law_1707 rfl ?_
    refine j_iconst (v := 2) (pc := 1709) g dL_law_1709 (by decide) ?_
    refine j_iadd (pc := 1710) g dL_law_1710 ?_
    refine j_sld (pc := 1711) gl h2 dL_law_1711 ?_
    refine j_callVi (pc := 1712) (na := 2) (As := [.int (xs (i + 1).toNatClampNeg), .int (xs (i + 2).toNatClampNeg)]) (rest := []) (q0 := 2) (ci := 10) (w' := ((o, .inl (t 4, 1, .inr (.inl fo))) :: (od, .inl (t 5, 1, .inr (.inr (.inr (.inl fd))))) :: (mC am t σm1 ++ kW aa ad t σk1 []))) g (cX9_greatestSeverityByTrial_ (rs := (o, .inl (t 4, 1, .inr (.inl fo))) :: (od, .inl (t 5, 1, .inr (.inr (.inr (.inl fd))))) :: kW aa ad t σk1 []) hm) q_i_X9_greatestSeverityByTrial q_s_X9_greatestSeverityByTrial rfl rfl rfl q_c_X9_greatestSeverityByTrial q_l_L_245 q_n_X9 (by decide +kernel) rfl ⟨Nat.le_of_ble_eq_true rfl, Nat.le_of_ble_eq_true rfl⟩ ⟨hkk, hnn⟩ (Nat.le_of_ble_eq_true rfl) (lw_pm_m aa ad am t σk1 σm _ _) (lw_pm_m aa ad am t σk1 σm1 _ _).symm dL_law_1712 ?_ rfl
    refine j_istore (L' := [(7, .int r), (6, .int 2), (5, .int i), (4, .ref od), (3, .ref o), (2, .ref (am 0)), (1, .ref (ad 0)), (0, .ref b)]) (pc := 1715) g dL_law_1715 (Nat.le_of_ble_eq_true rfl) rfl ?_
    refine j_aload_n (pc := 1717) g 5 dL_law_1717 rfl ?_
    refine j_callVi (pc := 1718) (na := 0) (As := []) (rest := []) (q0 := 2) (ci := 10) (w' := ((o, .inl (t 4, 1, .inr (.inl fo))) :: (od, .inl (t 5, 1, .inr (.inr (.inr (.inl fd))))) :: (mC am t σm1 ++ kW aa ad t σk1 []))) g (cX9_thrown_ (rs := (o, .inl (t 4, 1, .inr (.inl fo))) :: (od, .inl (t 5, 1, .inr (.inr (.inr (.inl fd))))) :: kW aa ad t σk1 []) rfl) q_i_X9_thrown q_s_X9_thrown rfl rfl rfl q_c_X9_thrown q_l_L_155 q_n_X9 (by decide +kernel) rfl ⟨Nat.le_of_ble_eq_true rfl, Nat.le_of_ble_eq_true rfl⟩ ⟨hkk, hnn⟩ (Nat.le_of_ble_eq_true rfl) (lw_pm_m aa ad am t σk1 σm1 _ _) (lw_pm_m aa ad am t σk1 σm1 _ _).symm dL_law_1718 ?_ rfl
    refine j_iload (pc := 1721) g 1 dL_law_1721 rfl ?_
    refine j_icmp_eq (tgt := 1728) (pc := 1723) g dL_law_1723 (by decide) (fun _ => ?_) (fun h9 => absurd h0 h9)
    refine j_iload (pc := 1728) g 1 dL_law_1728 rfl ?_
    refine j_if_ne (tgt := 1745) (pc := 1730) g dL_law_1730 (by decide) (fun _ => ?_) (fun h9 => absurd h9 (by decide))
    refine j_goto (tgt := 2781) (pc := 1745) g dL_law_1745 (by decide) ?_
    refine j_sub (pc := 2781) g [2, 3, 4, 5, 6, 7] rfl ?_
    exact j_widen g (by omega) (by omega) (next σk1 σm1 fo fd hR)
set_option maxRecDepth 100000 in
set_option maxHeartbeats 4000000 in
theorem lw_c27 {D : va_G} {t : Nat → ClassId} {aa : gx_AA} {l : Launch} {J : gx_J} {b Ln : Nat} {xs : Nat → Int32} (gl : gx_GL D t (gx_E0 aa) l room_1 cL_law RL 10 J b Ln xs) (hst : l.stackTraces = false) {k n : Nat} (hk : k + 1 ≤ room_1.cells) (hn : n + 6 ≤ room_1.slots) {i : Int32} (h1 : vp_in (i + 1) Ln) (h2 : vp_in (i + 2) Ln) (h3 : vp_in (i + 3) Ln) {ad am : Nat → Nat} {o od : Nat} {σk : CS} {σm : OS} {fo : Nat → Int64} {fd : Nat → UInt64} {R : CS → OS → Prop} (hag : Ag_firstRefusal R σk σm (xs (i + 1).toNatClampNeg) (xs (i + 2).toNatClampNeg) (xs (i + 3).toNatClampNeg)) (next : ∀ (σk2 : CS) (σm2 : OS) (fo2 : Nat → Int64) (fd2 : Nat → UInt64), R σk2 σm2 → J (k + 1) (n + 6) ((o, .inl (t 4, 1, .inr (.inl fo2))) :: (od, .inl (t 5, 1, .inr (.inr (.inr (.inl fd2))))) :: (mC am t σm2 ++ kW aa ad t σk2 [])) 2781 [(5, .int i), (4, .ref od), (3, .ref o), (2, .ref (am 0)), (1, .ref (ad 0)), (0, .ref b)] []) : J k n ((o, .inl (t 4, 1, .inr (.inl fo))) :: (od, .inl (t 5, 1, .inr (.inr (.inr (.inl fd))))) :: (mC am t σm ++ kW aa ad t σk [])) 1748 [(5, .int i), (4, .ref od), (3, .ref o), (2, .ref (am 0)), (1, .ref (ad 0)), (0, .ref b)] [] := by
  have g := gl.g
  have hkk : k ≤ room_1.cells := by omega
  have hnn : n ≤ room_1.slots := by omega
  obtain ⟨r, σm1, hm, hag⟩ := hag
  rcases hag with ⟨σk1, hf, h0, hR⟩ | ⟨σk1, hf, h0, hR⟩ | ⟨σk1, hf, h0, hR⟩ | ⟨σk1, hf, h0, hR⟩ | ⟨σk1, hf, h0, hR⟩
  · refine j_aload_n (pc := 1748) g 4 dL_law_1748 rfl ?_
    refine j_aload_n (pc := 1749) g 5 dL_law_1749 rfl ?_
    refine j_iload (pc := 1750) g 0 dL_law_1750 rfl ?_
    refine j_iconst (v := 1) (pc := 1752) g dL_law_1752 (by decide) ?_
    refine j_iadd (pc := 1753) g dL_law_1753 ?_
    refine j_sld (pc := 1754) gl h1 dL_law_1754 ?_
    refine j_aload_n (pc := 1755) g 5 dL_law_1755 rfl ?_
    refine j_iload (pc := 1756) g 0 dL_law_1756 rfl ?_
    refine j_iconst (v := 2) (pc := 1758) g dL_law_1758 (by decide) ?_
    refine j_iadd (pc := 1759) g dL_law_1759 ?_
    refine j_sld (pc := 1760) gl h2 dL_law_1760 ?_
    refine j_aload_n (pc := 1761) g 5 dL_law_1761 rfl ?_
    refine j_iload (pc := 1762) g 0 dL_law_1762 rfl ?_
    refine j_iconst (v := 3) (pc := 1764) g dL_law_1764 (by decide) ?_
    refine j_iadd (pc := 1765) g dL_law_1765 ?_
    refine j_sld (pc := 1766) gl h3 dL_law_1766 ?_
    refine j_aload_n (pc := 1767) g 2 dL_law_1767 rfl ?_
    refine j_callH (pc := 1768) (na := 5) (As := [.ref (ad 0), .int (xs (i + 1).toNatClampNeg), .int (xs (i + 2).toNatClampNeg), .int (xs (i + 3).toNatClampNeg), .ref o]) (rest := []) (r := 0) (w' := ((o, .inl (t 4, 1, .inr (.inl (vp_updL fo (0 : Int32).toNatClampNeg r.toInt64)))) :: (od, .inl (t 5, 1, .inr (.inr (.inr (.inl fd))))) :: (mC am t σm ++ kW aa ad t σk1 []))) g (hL_firstRefusal_ok (rs := (od, .inl (t 5, 1, .inr (.inr (.inr (.inl fd))))) :: mC am t σm) hst hf) q_t_L_firstRefusal q_w_L_firstRefusal q_l_L_246 q_n_L (by decide) (by decide +kernel) rfl ⟨Nat.le_of_ble_eq_true rfl, Nat.le_of_ble_eq_true rfl⟩ ⟨by omega, by omega⟩ (Nat.le_of_ble_eq_true rfl) (lw_pm_h aa ad am t σk σm _ _) (lw_pm_h aa ad am t σk1 σm _ _).symm dL_law_1768 ?_ rfl
    have hkk : k + 0 ≤ room_1.cells := by omega
    have hnn : n + 0 ≤ room_1.slots := by omega
    refine j_istore (L' := [(6, .int 0), (5, .int i), (4, .ref od), (3, .ref o), (2, .ref (am 0)), (1, .ref (ad 0)), (0, .ref b)]) (pc := 1771) g dL_law_1771 (Nat.le_of_ble_eq_true rfl) rfl ?_
    refine j_aload_n (pc := 1773) g 4 dL_law_1773 rfl ?_
    refine j_aload_n (pc := 1774) g 6 dL_law_1774 rfl ?_
    refine j_iload (pc := 1775) g 1 dL_law_1775 rfl ?_
    refine j_iconst (v := 1) (pc := 1777) g dL_law_1777 (by decide) ?_
    refine j_iadd (pc := 1778) g dL_law_1778 ?_
    refine j_sld (pc := 1779) gl h1 dL_law_1779 ?_
    refine j_aload_n (pc := 1780) g 6 dL_law_1780 rfl ?_
    refine j_iload (pc := 1781) g 1 dL_law_1781 rfl ?_
    refine j_iconst (v := 2) (pc := 1783) g dL_law_1783 (by decide) ?_
    refine j_iadd (pc := 1784) g dL_law_1784 ?_
    refine j_sld (pc := 1785) gl h2 dL_law_1785 ?_
    refine j_aload_n (pc := 1786) g 6 dL_law_1786 rfl ?_
    refine j_iload (pc := 1787) g 1 dL_law_1787 rfl ?_
    refine j_iconst (v := 3) (pc := 1789) g dL_law_1789 (by decide) ?_
    refine j_iadd (pc := 1790) g dL_law_1790 ?_
    refine j_sld (pc := 1791) gl h3 dL_law_1791 ?_
    refine j_callVi (pc := 1792) (na := 3) (As := [.int (xs (i + 1).toNatClampNeg), .int (xs (i + 2).toNatClampNeg), .int (xs (i + 3).toNatClampNeg)]) (rest := []) (q0 := 2) (ci := 10) (w' := ((o, .inl (t 4, 1, .inr (.inl (vp_updL fo (0 : Int32).toNatClampNeg r.toInt64)))) :: (od, .inl (t 5, 1, .inr (.inr (.inr (.inl fd))))) :: (mC am t σm1 ++ kW aa ad t σk1 []))) g (cX9_firstRefusal_ (rs := (o, .inl (t 4, 1, .inr (.inl (vp_updL fo (0 : Int32).toNatClampNeg r.toInt64)))) :: (od, .inl (t 5, 1, .inr (.inr (.inr (.inl fd))))) :: kW aa ad t σk1 []) hm) q_i_X9_firstRefusal q_s_X9_firstRefusal rfl rfl rfl q_c_X9_firstRefusal q_l_L_248 q_n_X9 (by decide +kernel) rfl ⟨Nat.le_of_ble_eq_true rfl, Nat.le_of_ble_eq_true rfl⟩ ⟨hkk, hnn⟩ (Nat.le_of_ble_eq_true rfl) (lw_pm_m aa ad am t σk1 σm _ _) (lw_pm_m aa ad am t σk1 σm1 _ _).symm dL_law_1792 ?_ rfl
    refine j_istore (L' := [(7, .int r), (6, .int 0), (5, .int i), (4, .ref od), (3, .ref o), (2, .ref (am 0)), (1, .ref (ad 0)), (0, .ref b)]) (pc := 1795) g dL_law_1795 (Nat.le_of_ble_eq_true rfl) rfl ?_
    refine j_aload_n (pc := 1797) g 5 dL_law_1797 rfl ?_
    refine j_callVi (pc := 1798) (na := 0) (As := []) (rest := []) (q0 := 2) (ci := 10) (w' := ((o, .inl (t 4, 1, .inr (.inl (vp_updL fo (0 : Int32).toNatClampNeg r.toInt64)))) :: (od, .inl (t 5, 1, .inr (.inr (.inr (.inl fd))))) :: (mC am t σm1 ++ kW aa ad t σk1 []))) g (cX9_thrown_ (rs := (o, .inl (t 4, 1, .inr (.inl (vp_updL fo (0 : Int32).toNatClampNeg r.toInt64)))) :: (od, .inl (t 5, 1, .inr (.inr (.inr (.inl fd))))) :: kW aa ad t σk1 []) rfl) q_i_X9_thrown q_s_X9_thrown rfl rfl rfl q_c_X9_thrown q_l_L_155 q_n_X9 (by decide +kernel) rfl ⟨Nat.le_of_ble_eq_true rfl, Nat.le_of_ble_eq_true rfl⟩ ⟨hkk, hnn⟩ (Nat.le_of_ble_eq_true rfl) (lw_pm_m aa ad am t σk1 σm1 _ _) (lw_pm_m aa ad am t σk1 σm1 _ _).symm dL_law_1798 ?_ rfl
    refine j_iload (pc := 1801) g 1 dL_law_1801 rfl ?_
    refine j_icmp_eq (tgt := 1808) (pc := 1803) g dL_law_1803 (by decide) (fun _ => ?_) (fun h9 => absurd h0 h9)
    refine j_iload (pc := 1808) g 1 dL_law_1808 rfl ?_
    refine j_if_ne (tgt := 1825) (pc := 1810) g dL_law_1810 (by decide) (fun h9 => absurd rfl h9) (fun _ => ?_)
    refine j_aload_n (pc := 1813) g 4 dL_law_1813 rfl ?_
    refine j_iconst (v := 0) (pc := 1814) g dL_law_1814 (by decide) ?_
    refine j_lald (pc := 1815) g 0 rfl (show gx_in (0 : Int32) 1 by decide) dL_law_1815 ?_
    refine j_iload (pc := 1816) g 0 dL_law_1816 rfl ?_
    refine j_i2l (pc := 1818) g dL_law_1818 ?_
    refine j_lcmp (pc := 1819) g dL_law_1819 ?_
    refine j_if_eq (tgt := 1825) (pc := 1820) g dL_law_1820 (by decide) (fun _ => ?_) (fun h9 => absurd (lw_cmp0 _) h9)
    refine j_goto (tgt := 2781) (pc := 1825) g dL_law_1825 (by decide) ?_
    refine j_sub (pc := 2781) g [2, 3, 4, 5, 6, 7] rfl ?_
    exact j_widen g (by omega) (by omega) (next σk1 σm1 (vp_updL fo (0 : Int32).toNatClampNeg r.toInt64) fd hR)
  · refine j_aload_n (pc := 1748) g 4 dL_law_1748 rfl ?_
    refine j_aload_n (pc := 1749) g 5 dL_law_1749 rfl ?_
    refine j_iload (pc := 1750) g 0 dL_law_1750 rfl ?_
    refine j_iconst (v := 1) (pc := 1752) g dL_law_1752 (by decide) ?_
    refine j_iadd (pc := 1753) g dL_law_1753 ?_
    refine j_sld (pc := 1754) gl h1 dL_law_1754 ?_
    refine j_aload_n (pc := 1755) g 5 dL_law_1755 rfl ?_
    refine j_iload (pc := 1756) g 0 dL_law_1756 rfl ?_
    refine j_iconst (v := 2) (pc := 1758) g dL_law_1758 (by decide) ?_
    refine j_iadd (pc := 1759) g dL_law_1759 ?_
    refine j_sld (pc := 1760) gl h2 dL_law_1760 ?_
    refine j_aload_n (pc := 1761) g 5 dL_law_1761 rfl ?_
    refine j_iload (pc := 1762) g 0 dL_law_1762 rfl ?_
    refine j_iconst (v := 3) (pc := 1764) g dL_law_1764 (by decide) ?_
    refine j_iadd (pc := 1765) g dL_law_1765 ?_
    refine j_sld (pc := 1766) gl h3 dL_law_1766 ?_
    refine j_aload_n (pc := 1767) g 2 dL_law_1767 rfl ?_
    refine j_callH (pc := 1768) (na := 5) (As := [.ref (ad 0), .int (xs (i + 1).toNatClampNeg), .int (xs (i + 2).toNatClampNeg), .int (xs (i + 3).toNatClampNeg), .ref o]) (rest := []) (r := 1) (w' := ((o, .inl (t 4, 1, .inr (.inl fo))) :: (od, .inl (t 5, 1, .inr (.inr (.inr (.inl fd))))) :: (mC am t σm ++ kW aa ad t σk1 []))) g (hL_firstRefusal_x1 (rs := (od, .inl (t 5, 1, .inr (.inr (.inr (.inl fd))))) :: mC am t σm) hst hf) q_t_L_firstRefusal q_w_L_firstRefusal q_l_L_246 q_n_L (by decide) (by decide +kernel) rfl ⟨Nat.le_of_ble_eq_true rfl, Nat.le_of_ble_eq_true rfl⟩ ⟨by omega, by omega⟩ (Nat.le_of_ble_eq_true rfl) (lw_pm_h aa ad am t σk σm _ _) (lw_pm_h aa ad am t σk1 σm _ _).symm dL_law_1768 ?_ rfl
    have hkk : k + 1 ≤ room_1.cells := by omega
    have hnn : n + 6 ≤ room_1.slots := by omega
    refine j_istore (L' := [(6, .int 1), (5, .int i), (4, .ref od), (3, .ref o), (2, .ref (am 0)), (1, .ref (ad 0)), (0, .ref b)]) (pc := 1771) g dL_law_1771 (Nat.le_of_ble_eq_true rfl) rfl ?_
    refine j_aload_n (pc := 1773) g 4 dL_law_1773 rfl ?_
    refine j_aload_n (pc := 1774) g 6 dL_law_1774 rfl ?_
    refine j_iload (pc := 1775) g 1 dL_law_1775 rfl ?_
    refine j_iconst (v := 1) (pc := 1777) g dL_law_1777 (by decide) ?_
    refine j_iadd (pc := 1778) g dL_law_1778 ?_
    refine j_sld (pc := 1779) gl h1 dL_law_1779 ?_
    refine j_aload_n (pc := 1780) g 6 dL_law_1780 rfl ?_
    refine j_iload (pc := 1781) g 1 dL_law_1781 rfl ?_
    refine j_iconst (v := 2) (pc := 1783) g dL_law_1783 (by decide) ?_
    refine j_iadd (pc := 1784) g dL_law_1784 ?_
    refine j_sld (pc := 1785) gl h2 dL_law_1785 ?_
    refine j_aload_n (pc := 1786) g 6 dL_law_1786 rfl ?_
    refine j_iload (pc := 1787) g 1 dL_law_1787 rfl ?_
    refine j_iconst (v := 3) (pc := 1789) g dL_law_1789 (by decide) ?_
    refine j_iadd (pc := 1790) g dL_law_1790 ?_
    refine j_sld (pc := 1791) gl h3 dL_law_1791 ?_
    refine j_callVi (pc := 1792) (na := 3) (As := [.int (xs (i + 1).toNatClampNeg), .int (xs (i + 2).toNatClampNeg), .int (xs (i + 3).toNatClampNeg)]) (rest := []) (q0 := 2) (ci := 10) (w' := ((o, .inl (t 4, 1, .inr (.inl fo))) :: (od, .inl (t 5, 1, .inr (.inr (.inr (.inl fd))))) :: (mC am t σm1 ++ kW aa ad t σk1 []))) g (cX9_firstRefusal_ (rs := (o, .inl (t 4, 1, .inr (.inl fo))) :: (od, .inl (t 5, 1, .inr (.inr (.inr (.inl fd))))) :: kW aa ad t σk1 []) hm) q_i_X9_firstRefusal q_s_X9_firstRefusal rfl rfl rfl q_c_X9_firstRefusal q_l_L_248 q_n_X9 (by decide +kernel) rfl ⟨Nat.le_of_ble_eq_true rfl, Nat.le_of_ble_eq_true rfl⟩ ⟨hkk, hnn⟩ (Nat.le_of_ble_eq_true rfl) (lw_pm_m aa ad am t σk1 σm _ _) (lw_pm_m aa ad am t σk1 σm1 _ _).symm dL_law_1792 ?_ rfl
    refine j_istore (L' := [(7, .int r), (6, .int 1), (5, .int i), (4, .ref od), (3, .ref o), (2, .ref (am 0)), (1, .ref (ad 0)), (0, .ref b)]) (pc := 1795) g dL_law_1795 (Nat.le_of_ble_eq_true rfl) rfl ?_
    refine j_aload_n (pc := 1797) g 5 dL_law_1797 rfl ?_
    refine j_callVi (pc := 1798) (na := 0) (As := []) (rest := []) (q0 := 2) (ci := 10) (w' := ((o, .inl (t 4, 1, .inr (.inl fo))) :: (od, .inl (t 5, 1, .inr (.inr (.inr (.inl fd))))) :: (mC am t σm1 ++ kW aa ad t σk1 []))) g (cX9_thrown_ (rs := (o, .inl (t 4, 1, .inr (.inl fo))) :: (od, .inl (t 5, 1, .inr (.inr (.inr (.inl fd))))) :: kW aa ad t σk1 []) rfl) q_i_X9_thrown q_s_X9_thrown rfl rfl rfl q_c_X9_thrown q_l_L_155 q_n_X9 (by decide +kernel) rfl ⟨Nat.le_of_ble_eq_true rfl, Nat.le_of_ble_eq_true rfl⟩ ⟨hkk, hnn⟩ (Nat.le_of_ble_eq_true rfl) (lw_pm_m aa ad am t σk1 σm1 _ _) (lw_pm_m aa ad am t σk1 σm1 _ _).symm dL_law_1798 ?_ rfl
    refine j_iload (pc := 1801) g 1 dL_law_1801 rfl ?_
    refine j_icmp_eq (tgt := 1808) (pc := 1803) g dL_law_1803 (by decide) (fun _ => ?_) (fun h9 => absurd h0 h9)
    refine j_iload (pc := 1808) g 1 dL_law_1808 rfl ?_
    refine j_if_ne (tgt := 1825) (pc := 1810) g dL_law_1810 (by decide) (fun _ => ?_) (fun h9 => absurd h9 (by decide))
    refine j_goto (tgt := 2781) (pc := 1825) g dL_law_1825 (by decide) ?_
    refine j_sub (pc := 2781) g [2, 3, 4, 5, 6, 7] rfl ?_
    exact j_widen g (by omega) (by omega) (next σk1 σm1 fo fd hR)
  · refine j_aload_n (pc := 1748) g 4 dL_law_1748 rfl ?_
    refine j_aload_n (pc := 1749) g 5 dL_law_1749 rfl ?_
    refine j_iload (pc := 1750) g 0 dL_law_1750 rfl ?_
    refine j_iconst (v := 1) (pc := 1752) g dL_law_1752 (by decide) ?_
    refine j_iadd (pc := 1753) g dL_law_1753 ?_
    refine j_sld (pc := 1754) gl h1 dL_law_1754 ?_
    refine j_aload_n (pc := 1755) g 5 dL_law_1755 rfl ?_
    refine j_iload (pc := 1756) g 0 dL_law_1756 rfl ?_
    refine j_iconst (v := 2) (pc := 1758) g dL_law_1758 (by decide) ?_
    refine j_iadd (pc := 1759) g dL_law_1759 ?_
    refine j_sld (pc := 1760) gl h2 dL_law_1760 ?_
    refine j_aload_n (pc := 1761) g 5 dL_law_1761 rfl ?_
    refine j_iload (pc := 1762) g 0 dL_law_1762 rfl ?_
    refine j_iconst (v := 3) (pc := 1764) g dL_law_1764 (by decide) ?_
    refine j_iadd (pc := 1765) g dL_law_1765 ?_
    refine j_sld (pc := 1766) gl h3 dL_law_1766 ?_
    refine j_aload_n (pc := 1767) g 2 dL_law_1767 rfl ?_
    refine j_callH (pc := 1768) (na := 5) (As := [.ref (ad 0), .int (xs (i + 1).toNatClampNeg), .int (xs (i + 2).toNatClampNeg), .int (xs (i + 3).toNatClampNeg), .ref o]) (rest := []) (r := 2) (w' := ((o, .inl (t 4, 1, .inr (.inl fo))) :: (od, .inl (t 5, 1, .inr (.inr (.inr (.inl fd))))) :: (mC am t σm ++ kW aa ad t σk1 []))) g (hL_firstRefusal_x2 (rs := (od, .inl (t 5, 1, .inr (.inr (.inr (.inl fd))))) :: mC am t σm) hst hf) q_t_L_firstRefusal q_w_L_firstRefusal q_l_L_246 q_n_L (by decide) (by decide +kernel) rfl ⟨Nat.le_of_ble_eq_true rfl, Nat.le_of_ble_eq_true rfl⟩ ⟨by omega, by omega⟩ (Nat.le_of_ble_eq_true rfl) (lw_pm_h aa ad am t σk σm _ _) (lw_pm_h aa ad am t σk1 σm _ _).symm dL_law_1768 ?_ rfl
    have hkk : k + 1 ≤ room_1.cells := by omega
    have hnn : n + 6 ≤ room_1.slots := by omega
    refine j_istore (L' := [(6, .int 2), (5, .int i), (4, .ref od), (3, .ref o), (2, .ref (am 0)), (1, .ref (ad 0)), (0, .ref b)]) (pc := 1771) g dL_law_1771 (Nat.le_of_ble_eq_true rfl) rfl ?_
    refine j_aload_n (pc := 1773) g 4 dL_law_1773 rfl ?_
    refine j_aload_n (pc := 1774) g 6 dL_law_1774 rfl ?_
    refine j_iload (pc := 1775) g 1 dL_law_1775 rfl ?_
    refine j_iconst (v := 1) (pc := 1777) g dL_law_1777 (by decide) ?_
    refine j_iadd (pc := 1778) g dL_law_1778 ?_
    refine j_sld (pc := 1779) gl h1 dL_law_1779 ?_
    refine j_aload_n (pc := 1780) g 6 dL_law_1780 rfl ?_
    refine j_iload (pc := 1781) g 1 dL_law_1781 rfl ?_
    refine j_iconst (v := 2) (pc := 1783) g dL_law_1783 (by decide) ?_
    refine j_iadd (pc := 1784) g dL_law_1784 ?_
    refine j_sld (pc := 1785) gl h2 dL_law_1785 ?_
    refine j_aload_n (pc := 1786) g 6 dL_law_1786 rfl ?_
    refine j_iload (pc := 1787) g 1 dL_law_1787 rfl ?_
    refine j_iconst (v := 3) (pc := 1789) g dL_law_1789 (by decide) ?_
    refine j_iadd (pc := 1790) g dL_law_1790 ?_
    refine j_sld (pc := 1791) gl h3 dL_law_1791 ?_
    refine j_callVi (pc := 1792) (na := 3) (As := [.int (xs (i + 1).toNatClampNeg), .int (xs (i + 2).toNatClampNeg), .int (xs (i + 3).toNatClampNeg)]) (rest := []) (q0 := 2) (ci := 10) (w' := ((o, .inl (t 4, 1, .inr (.inl fo))) :: (od, .inl (t 5, 1, .inr (.inr (.inr (.inl fd))))) :: (mC am t σm1 ++ kW aa ad t σk1 []))) g (cX9_firstRefusal_ (rs := (o, .inl (t 4, 1, .inr (.inl fo))) :: (od, .inl (t 5, 1, .inr (.inr (.inr (.inl fd))))) :: kW aa ad t σk1 []) hm) q_i_X9_firstRefusal q_s_X9_firstRefusal rfl rfl rfl q_c_X9_firstRefusal q_l_L_248 q_n_X9 (by decide +kernel) rfl ⟨Nat.le_of_ble_eq_true rfl, Nat.le_of_ble_eq_true rfl⟩ ⟨hkk, hnn⟩ (Nat.le_of_ble_eq_true rfl) (lw_pm_m aa ad am t σk1 σm _ _) (lw_pm_m aa ad am t σk1 σm1 _ _).symm dL_law_1792 ?_ rfl
    refine j_istore (L' := [(7, .int r), (6, .int 2), (5, .int i), (4, .ref od), (3, .ref o), (2, .ref (am 0)), (1, .ref (ad 0)), (0, .ref b)]) (pc := 1795) g dL_law_1795 (Nat.le_of_ble_eq_true rfl) rfl ?_
    refine j_aload_n (pc := 1797) g 5 dL_law_1797 rfl ?_
    refine j_callVi (pc := 1798) (na := 0) (As := []) (rest := []) (q0 := 2) (ci := 10) (w' := ((o, .inl (t 4, 1, .inr (.inl fo))) :: (od, .inl (t 5, 1, .inr (.inr (.inr (.inl fd))))) :: (mC am t σm1 ++ kW aa ad t σk1 []))) g (cX9_thrown_ (rs := (o, .inl (t 4, 1, .inr (.inl fo))) :: (od, .inl (t 5, 1, .inr (.inr (.inr (.inl fd))))) :: kW aa ad t σk1 []) rfl) q_i_X9_thrown q_s_X9_thrown rfl rfl rfl q_c_X9_thrown q_l_L_155 q_n_X9 (by decide +kernel) rfl ⟨Nat.le_of_ble_eq_true rfl, Nat.le_of_ble_eq_true rfl⟩ ⟨hkk, hnn⟩ (Nat.le_of_ble_eq_true rfl) (lw_pm_m aa ad am t σk1 σm1 _ _) (lw_pm_m aa ad am t σk1 σm1 _ _).symm dL_law_1798 ?_ rfl
    refine j_iload (pc := 1801) g 1 dL_law_1801 rfl ?_
    refine j_icmp_eq (tgt := 1808) (pc := 1803) g dL_law_1803 (by decide) (fun _ => ?_) (fun h9 => absurd h0 h9)
    refine j_iload (pc := 1808) g 1 dL_law_1808 rfl ?_
    refine j_if_ne (tgt := 1825) (pc := 1810) g dL_law_1810 (by decide) (fun _ => ?_) (fun h9 => absurd h9 (by decide))
    refine j_goto (tgt := 2781) (pc := 1825) g dL_law_1825 (by decide) ?_
    refine j_sub (pc := 2781) g [2, 3, 4, 5, 6, 7] rfl ?_
    exact j_widen g (by omega) (by omega) (next σk1 σm1 fo fd hR)
  · refine j_aload_n (pc := 1748) g 4 dL_law_1748 rfl ?_
    refine j_aload_n (pc := 1749) g 5 dL_law_1749 rfl ?_
    refine j_iload (pc := 1750) g 0 dL_law_1750 rfl ?_
    refine j_iconst (v := 1) (pc := 1752) g dL_law_1752 (by decide) ?_
    refine j_iadd (pc := 1753) g dL_law_1753 ?_
    refine j_sld (pc := 1754) gl h1 dL_law_1754 ?_
    refine j_aload_n (pc := 1755) g 5 dL_law_1755 rfl ?_
    refine j_iload (pc := 1756) g 0 dL_law_1756 rfl ?_
    refine j_iconst (v := 2) (pc := 1758) g dL_law_1758 (by decide) ?_
    refine j_iadd (pc := 1759) g dL_law_1759 ?_
    refine j_sld (pc := 1760) gl h2 dL_law_1760 ?_
    refine j_aload_n (pc := 1761) g 5 dL_law_1761 rfl ?_
    refine j_iload (pc := 1762) g 0 dL_law_1762 rfl ?_
    refine j_iconst (v := 3) (pc := 1764) g dL_law_1764 (by decide) ?_
    refine j_iadd (pc := 1765) g dL_law_1765 ?_
    refine j_sld (pc := 1766) gl h3 dL_law_1766 ?_
    refine j_aload_n (pc := 1767) g 2 dL_law_1767 rfl ?_
    refine j_callH (pc := 1768) (na := 5) (As := [.ref (ad 0), .int (xs (i + 1).toNatClampNeg), .int (xs (i + 2).toNatClampNeg), .int (xs (i + 3).toNatClampNeg), .ref o]) (rest := []) (r := 3) (w' := ((o, .inl (t 4, 1, .inr (.inl fo))) :: (od, .inl (t 5, 1, .inr (.inr (.inr (.inl fd))))) :: (mC am t σm ++ kW aa ad t σk1 []))) g (hL_firstRefusal_x3 (rs := (od, .inl (t 5, 1, .inr (.inr (.inr (.inl fd))))) :: mC am t σm) hst hf) q_t_L_firstRefusal q_w_L_firstRefusal q_l_L_246 q_n_L (by decide) (by decide +kernel) rfl ⟨Nat.le_of_ble_eq_true rfl, Nat.le_of_ble_eq_true rfl⟩ ⟨by omega, by omega⟩ (Nat.le_of_ble_eq_true rfl) (lw_pm_h aa ad am t σk σm _ _) (lw_pm_h aa ad am t σk1 σm _ _).symm dL_law_1768 ?_ rfl
    have hkk : k + 1 ≤ room_1.cells := by omega
    have hnn : n + 6 ≤ room_1.slots := by omega
    refine j_istore (L' := [(6, .int 3), (5, .int i), (4, .ref od), (3, .ref o), (2, .ref (am 0)), (1, .ref (ad 0)), (0, .ref b)]) (pc := 1771) g dL_law_1771 (Nat.le_of_ble_eq_true rfl) rfl ?_
    refine j_aload_n (pc := 1773) g 4 dL_law_1773 rfl ?_
    refine j_aload_n (pc := 1774) g 6 dL_law_1774 rfl ?_
    refine j_iload (pc := 1775) g 1 dL_law_1775 rfl ?_
    refine j_iconst (v := 1) (pc := 1777) g dL_law_1777 (by decide) ?_
    refine j_iadd (pc := 1778) g dL_law_1778 ?_
    refine j_sld (pc := 1779) gl h1 dL_law_1779 ?_
    refine j_aload_n (pc := 1780) g 6 dL_law_1780 rfl ?_
    refine j_iload (pc := 1781) g 1 dL_law_1781 rfl ?_
    refine j_iconst (v := 2) (pc := 1783) g dL_law_1783 (by decide) ?_
    refine j_iadd (pc := 1784) g dL_law_1784 ?_
    refine j_sld (pc := 1785) gl h2 dL_law_1785 ?_
    refine j_aload_n (pc := 1786) g 6 dL_law_1786 rfl ?_
    refine j_iload (pc := 1787) g 1 dL_law_1787 rfl ?_
    refine j_iconst (v := 3) (pc := 1789) g dL_law_1789 (by decide) ?_
    refine j_iadd (pc := 1790) g dL_law_1790 ?_
    refine j_sld (pc := 1791) gl h3 dL_law_1791 ?_
    refine j_callVi (pc := 1792) (na := 3) (As := [.int (xs (i + 1).toNatClampNeg), .int (xs (i + 2).toNatClampNeg), .int (xs (i + 3).toNatClampNeg)]) (rest := []) (q0 := 2) (ci := 10) (w' := ((o, .inl (t 4, 1, .inr (.inl fo))) :: (od, .inl (t 5, 1, .inr (.inr (.inr (.inl fd))))) :: (mC am t σm1 ++ kW aa ad t σk1 []))) g (cX9_firstRefusal_ (rs := (o, .inl (t 4, 1, .inr (.inl fo))) :: (od, .inl (t 5, 1, .inr (.inr (.inr (.inl fd))))) :: kW aa ad t σk1 []) hm) q_i_X9_firstRefusal q_s_X9_firstRefusal rfl rfl rfl q_c_X9_firstRefusal q_l_L_248 q_n_X9 (by decide +kernel) rfl ⟨Nat.le_of_ble_eq_true rfl, Nat.le_of_ble_eq_true rfl⟩ ⟨hkk, hnn⟩ (Nat.le_of_ble_eq_true rfl) (lw_pm_m aa ad am t σk1 σm _ _) (lw_pm_m aa ad am t σk1 σm1 _ _).symm dL_law_1792 ?_ rfl
    refine j_istore (L' := [(7, .int r), (6, .int 3), (5, .int i), (4, .ref od), (3, .ref o), (2, .ref (am 0)), (1, .ref (ad 0)), (0, .ref b)]) (pc := 1795) g dL_law_1795 (Nat.le_of_ble_eq_true rfl) rfl ?_
    refine j_aload_n (pc := 1797) g 5 dL_law_1797 rfl ?_
    refine j_callVi (pc := 1798) (na := 0) (As := []) (rest := []) (q0 := 2) (ci := 10) (w' := ((o, .inl (t 4, 1, .inr (.inl fo))) :: (od, .inl (t 5, 1, .inr (.inr (.inr (.inl fd))))) :: (mC am t σm1 ++ kW aa ad t σk1 []))) g (cX9_thrown_ (rs := (o, .inl (t 4, 1, .inr (.inl fo))) :: (od, .inl (t 5, 1, .inr (.inr (.inr (.inl fd))))) :: kW aa ad t σk1 []) rfl) q_i_X9_thrown q_s_X9_thrown rfl rfl rfl q_c_X9_thrown q_l_L_155 q_n_X9 (by decide +kernel) rfl ⟨Nat.le_of_ble_eq_true rfl, Nat.le_of_ble_eq_true rfl⟩ ⟨hkk, hnn⟩ (Nat.le_of_ble_eq_true rfl) (lw_pm_m aa ad am t σk1 σm1 _ _) (lw_pm_m aa ad am t σk1 σm1 _ _).symm dL_law_1798 ?_ rfl
    refine j_iload (pc := 1801) g 1 dL_law_1801 rfl ?_
    refine j_icmp_eq (tgt := 1808) (pc := 1803) g dL_law_1803 (by decide) (fun _ => ?_) (fun h9 => absurd h0 h9)
    refine j_iload (pc := 1808) g 1 dL_law_1808 rfl ?_
    refine j_if_ne (tgt := 1825) (pc := 1810) g dL_law_1810 (by decide) (fun _ => ?_) (fun h9 => absurd h9 (by decide))
    refine j_goto (tgt := 2781) (pc := 1825) g dL_law_1825 (by decide) ?_
    refine j_sub (pc := 2781) g [2, 3, 4, 5, 6, 7] rfl ?_
    exact j_widen g (by omega) (by omega) (next σk1 σm1 fo fd hR)
  · refine j_aload_n (pc := 1748) g 4 dL_law_1748 rfl ?_
    refine j_aload_n (pc := 1749) g 5 dL_law_1749 rfl ?_
    refine j_iload (pc := 1750) g 0 dL_law_1750 rfl ?_
    refine j_iconst (v := 1) (pc := 1752) g dL_law_1752 (by decide) ?_
    refine j_iadd (pc := 1753) g dL_law_1753 ?_
    refine j_sld (pc := 1754) gl h1 dL_law_1754 ?_
    refine j_aload_n (pc := 1755) g 5 dL_law_1755 rfl ?_
    refine j_iload (pc := 1756) g 0 dL_law_1756 rfl ?_
    refine j_iconst (v := 2) (pc := 1758) g dL_law_1758 (by decide) ?_
    refine j_iadd (pc := 1759) g dL_law_1759 ?_
    refine j_sld (pc := 1760) gl h2 dL_law_1760 ?_
    refine j_aload_n (pc := 1761) g 5 dL_law_1761 rfl ?_
    refine j_iload (pc := 1762) g 0 dL_law_1762 rfl ?_
    refine j_iconst (v := 3) (pc := 1764) g dL_law_1764 (by decide) ?_
    refine j_iadd (pc := 1765) g dL_law_1765 ?_
    refine j_sld (pc := 1766) gl h3 dL_law_1766 ?_
    refine j_aload_n (pc := 1767) g 2 dL_law_1767 rfl ?_
    refine j_callH (pc := 1768) (na := 5) (As := [.ref (ad 0), .int (xs (i + 1).toNatClampNeg), .int (xs (i + 2).toNatClampNeg), .int (xs (i + 3).toNatClampNeg), .ref o]) (rest := []) (r := 4) (w' := ((o, .inl (t 4, 1, .inr (.inl fo))) :: (od, .inl (t 5, 1, .inr (.inr (.inr (.inl fd))))) :: (mC am t σm ++ kW aa ad t σk1 []))) g (hL_firstRefusal_x4 (rs := (od, .inl (t 5, 1, .inr (.inr (.inr (.inl fd))))) :: mC am t σm) hst hf) q_t_L_firstRefusal q_w_L_firstRefusal q_l_L_246 q_n_L (by decide) (by decide +kernel) rfl ⟨Nat.le_of_ble_eq_true rfl, Nat.le_of_ble_eq_true rfl⟩ ⟨by omega, by omega⟩ (Nat.le_of_ble_eq_true rfl) (lw_pm_h aa ad am t σk σm _ _) (lw_pm_h aa ad am t σk1 σm _ _).symm dL_law_1768 ?_ rfl
    have hkk : k + 1 ≤ room_1.cells := by omega
    have hnn : n + 6 ≤ room_1.slots := by omega
    refine j_istore (L' := [(6, .int 4), (5, .int i), (4, .ref od), (3, .ref o), (2, .ref (am 0)), (1, .ref (ad 0)), (0, .ref b)]) (pc := 1771) g dL_law_1771 (Nat.le_of_ble_eq_true rfl) rfl ?_
    refine j_aload_n (pc := 1773) g 4 dL_law_1773 rfl ?_
    refine j_aload_n (pc := 1774) g 6 dL_law_1774 rfl ?_
    refine j_iload (pc := 1775) g 1 dL_law_1775 rfl ?_
    refine j_iconst (v := 1) (pc := 1777) g dL_law_1777 (by decide) ?_
    refine j_iadd (pc := 1778) g dL_law_1778 ?_
    refine j_sld (pc := 1779) gl h1 dL_law_1779 ?_
    refine j_aload_n (pc := 1780) g 6 dL_law_1780 rfl ?_
    refine j_iload (pc := 1781) g 1 dL_law_1781 rfl ?_
    refine j_iconst (v := 2) (pc := 1783) g dL_law_1783 (by decide) ?_
    refine j_iadd (pc := 1784) g dL_law_1784 ?_
    refine j_sld (pc := 1785) gl h2 dL_law_1785 ?_
    refine j_aload_n (pc := 1786) g 6 dL_law_1786 rfl ?_
    refine j_iload (pc := 1787) g 1 dL_law_1787 rfl ?_
    refine j_iconst (v := 3) (pc := 1789) g dL_law_1789 (by decide) ?_
    refine j_iadd (pc := 1790) g dL_law_1790 ?_
    refine j_sld (pc := 1791) gl h3 dL_law_1791 ?_
    refine j_callVi (pc := 1792) (na := 3) (As := [.int (xs (i + 1).toNatClampNeg), .int (xs (i + 2).toNatClampNeg), .int (xs (i + 3).toNatClampNeg)]) (rest := []) (q0 := 2) (ci := 10) (w' := ((o, .inl (t 4, 1, .inr (.inl fo))) :: (od, .inl (t 5, 1, .inr (.inr (.inr (.inl fd))))) :: (mC am t σm1 ++ kW aa ad t σk1 []))) g (cX9_firstRefusal_ (rs := (o, .inl (t 4, 1, .inr (.inl fo))) :: (od, .inl (t 5, 1, .inr (.inr (.inr (.inl fd))))) :: kW aa ad t σk1 []) hm) q_i_X9_firstRefusal q_s_X9_firstRefusal rfl rfl rfl q_c_X9_firstRefusal q_l_L_248 q_n_X9 (by decide +kernel) rfl ⟨Nat.le_of_ble_eq_true rfl, Nat.le_of_ble_eq_true rfl⟩ ⟨hkk, hnn⟩ (Nat.le_of_ble_eq_true rfl) (lw_pm_m aa ad am t σk1 σm _ _) (lw_pm_m aa ad am t σk1 σm1 _ _).symm dL_law_1792 ?_ rfl
    refine j_istore (L' := [(7, .int r), (6, .int 4), (5, .int i), (4, .ref od), (3, .ref o), (2, .ref (am 0)), (1, .ref (ad 0)), (0, .ref b)]) (pc := 1795) g dL_law_1795 (Nat.le_of_ble_eq_true rfl) rfl ?_
    refine j_aload_n (pc := 1797) g 5 dL_law_1797 rfl ?_
    refine j_callVi (pc := 1798) (na := 0) (As := []) (rest := []) (q0 := 2) (ci := 10) (w' := ((o, .inl (t 4, 1, .inr (.inl fo))) :: (od, .inl (t 5, 1, .inr (.inr (.inr (.inl fd))))) :: (mC am t σm1 ++ kW aa ad t σk1 []))) g (cX9_thrown_ (rs := (o, .inl (t 4, 1, .inr (.inl fo))) :: (od, .inl (t 5, 1, .inr (.inr (.inr (.inl fd))))) :: kW aa ad t σk1 []) rfl) q_i_X9_thrown q_s_X9_thrown rfl rfl rfl q_c_X9_thrown q_l_L_155 q_n_X9 (by decide +kernel) rfl ⟨Nat.le_of_ble_eq_true rfl, Nat.le_of_ble_eq_true rfl⟩ ⟨hkk, hnn⟩ (Nat.le_of_ble_eq_true rfl) (lw_pm_m aa ad am t σk1 σm1 _ _) (lw_pm_m aa ad am t σk1 σm1 _ _).symm dL_law_1798 ?_ rfl
    refine j_iload (pc := 1801) g 1 dL_law_1801 rfl ?_
    refine j_icmp_eq (tgt := 1808) (pc := 1803) g dL_law_1803 (by decide) (fun _ => ?_) (fun h9 => absurd h0 h9)
    refine j_iload (pc := 1808) g 1 dL_law_1808 rfl ?_
    refine j_if_ne (tgt := 1825) (pc := 1810) g dL_law_1810 (by decide) (fun _ => ?_) (fun h9 => absurd h9 (by decide))
    refine j_goto (tgt := 2781) (pc := 1825) g dL_law_1825 (by decide) ?_
    refine j_sub (pc := 2781) g [2, 3, 4, 5, 6, 7] rfl ?_
    exact j_widen g (by omega) (by omega) (next σk1 σm1 fo fd hR)
set_option maxRecDepth 100000 in
set_option maxHeartbeats 4000000 in
theorem lw_c28 {D : va_G} {t : Nat → ClassId} {aa : gx_AA} {l : Launch} {J : gx_J} {b Ln : Nat} {xs : Nat → Int32} (gl : gx_GL D t (gx_E0 aa) l room_1 cL_law RL 10 J b Ln xs) (hst : l.stackTraces = false) {k n : Nat} (hk : k + 1 ≤ room_1.cells) (hn : n + 6 ≤ room_1.slots) {i : Int32} (h1 : vp_in (i + 1) Ln) (h2 : vp_in (i + 2) Ln) (h3 : vp_in (i + 3) Ln) {ad am : Nat → Nat} {o od : Nat} {σk : CS} {σm : OS} {fo : Nat → Int64} {fd : Nat → UInt64} {R : CS → OS → Prop} (hag : Ag_orderCount R σk σm) (next : ∀ (σk2 : CS) (σm2 : OS) (fo2 : Nat → Int64) (fd2 : Nat → UInt64), R σk2 σm2 → J (k + 1) (n + 6) ((o, .inl (t 4, 1, .inr (.inl fo2))) :: (od, .inl (t 5, 1, .inr (.inr (.inr (.inl fd2))))) :: (mC am t σm2 ++ kW aa ad t σk2 [])) 2781 [(5, .int i), (4, .ref od), (3, .ref o), (2, .ref (am 0)), (1, .ref (ad 0)), (0, .ref b)] []) : J k n ((o, .inl (t 4, 1, .inr (.inl fo))) :: (od, .inl (t 5, 1, .inr (.inr (.inr (.inl fd))))) :: (mC am t σm ++ kW aa ad t σk [])) 1828 [(5, .int i), (4, .ref od), (3, .ref o), (2, .ref (am 0)), (1, .ref (ad 0)), (0, .ref b)] [] := by
  have g := gl.g
  have hkk : k ≤ room_1.cells := by omega
  have hnn : n ≤ room_1.slots := by omega
  obtain ⟨r, σm1, hm, hf, hR⟩ := hag
  refine j_aload_n (pc := 1828) g 4 dL_law_1828 rfl ?_
  refine j_callVi (pc := 1829) (na := 0) (As := []) (rest := []) (q0 := 10) (ci := 9) (w' := ((o, .inl (t 4, 1, .inr (.inl fo))) :: (od, .inl (t 5, 1, .inr (.inr (.inr (.inl fd))))) :: (mC am t σm ++ kW aa ad t σk []))) g (cX8_orderCount_ (rs := (o, .inl (t 4, 1, .inr (.inl fo))) :: (od, .inl (t 5, 1, .inr (.inr (.inr (.inl fd))))) :: mC am t σm) hf) q_i_X8_orderCount q_s_X8_orderCount rfl rfl (lw_at9 aa ad am t σk σm _ _) q_c_X8_orderCount q_l_L_249 q_n_X8 (by decide +kernel) rfl ⟨Nat.le_of_ble_eq_true rfl, Nat.le_of_ble_eq_true rfl⟩ ⟨hkk, hnn⟩ (Nat.le_of_ble_eq_true rfl) (lw_pm_k aa ad am t σk σm _ _) (lw_pm_k aa ad am t σk σm _ _).symm dL_law_1829 ?_ rfl
  refine j_aload_n (pc := 1832) g 3 dL_law_1832 rfl ?_
  refine j_callVi (pc := 1833) (na := 0) (As := []) (rest := [.int r]) (q0 := 2) (ci := 10) (w' := ((o, .inl (t 4, 1, .inr (.inl fo))) :: (od, .inl (t 5, 1, .inr (.inr (.inr (.inl fd))))) :: (mC am t σm1 ++ kW aa ad t σk []))) g (cX9_orderCount_ (rs := (o, .inl (t 4, 1, .inr (.inl fo))) :: (od, .inl (t 5, 1, .inr (.inr (.inr (.inl fd))))) :: kW aa ad t σk []) hm) q_i_X9_orderCount q_s_X9_orderCount rfl rfl rfl q_c_X9_orderCount q_l_L_252 q_n_X9 (by decide +kernel) rfl ⟨Nat.le_of_ble_eq_true rfl, Nat.le_of_ble_eq_true rfl⟩ ⟨hkk, hnn⟩ (Nat.le_of_ble_eq_true rfl) (lw_pm_m aa ad am t σk σm _ _) (lw_pm_m aa ad am t σk σm1 _ _).symm dL_law_1833 ?_ rfl
  refine j_icmp_eq (tgt := 2781) (pc := 1836) g dL_law_1836 (by decide) (fun _ => ?_) (fun h9 => absurd rfl h9)
  refine j_sub (pc := 2781) g [0, 1, 2, 3, 4, 5] rfl ?_
  exact j_widen g (by omega) (by omega) (next σk σm1 fo fd hR)
set_option maxRecDepth 100000 in
set_option maxHeartbeats 4000000 in
theorem lw_c29 {D : va_G} {t : Nat → ClassId} {aa : gx_AA} {l : Launch} {J : gx_J} {b Ln : Nat} {xs : Nat → Int32} (gl : gx_GL D t (gx_E0 aa) l room_1 cL_law RL 10 J b Ln xs) (hst : l.stackTraces = false) {k n : Nat} (hk : k + 1 ≤ room_1.cells) (hn : n + 6 ≤ room_1.slots) {i : Int32} (h1 : vp_in (i + 1) Ln) (h2 : vp_in (i + 2) Ln) (h3 : vp_in (i + 3) Ln) {ad am : Nat → Nat} {o od : Nat} {σk : CS} {σm : OS} {fo : Nat → Int64} {fd : Nat → UInt64} {R : CS → OS → Prop} (hag : Ag_holder R σk σm (xs (i + 1).toNatClampNeg)) (next : ∀ (σk2 : CS) (σm2 : OS) (fo2 : Nat → Int64) (fd2 : Nat → UInt64), R σk2 σm2 → J (k + 1) (n + 6) ((o, .inl (t 4, 1, .inr (.inl fo2))) :: (od, .inl (t 5, 1, .inr (.inr (.inr (.inl fd2))))) :: (mC am t σm2 ++ kW aa ad t σk2 [])) 2781 [(5, .int i), (4, .ref od), (3, .ref o), (2, .ref (am 0)), (1, .ref (ad 0)), (0, .ref b)] []) : J k n ((o, .inl (t 4, 1, .inr (.inl fo))) :: (od, .inl (t 5, 1, .inr (.inr (.inr (.inl fd))))) :: (mC am t σm ++ kW aa ad t σk [])) 1841 [(5, .int i), (4, .ref od), (3, .ref o), (2, .ref (am 0)), (1, .ref (ad 0)), (0, .ref b)] [] := by
  have g := gl.g
  have hkk : k ≤ room_1.cells := by omega
  have hnn : n ≤ room_1.slots := by omega
  obtain ⟨r, σm1, hm, hag⟩ := hag
  rcases hag with ⟨σk1, hf, h0, hR⟩ | ⟨σk1, hf, h0, hR⟩
  · refine j_aload_n (pc := 1841) g 4 dL_law_1841 rfl ?_
    refine j_aload_n (pc := 1842) g 5 dL_law_1842 rfl ?_
    refine j_iload (pc := 1843) g 0 dL_law_1843 rfl ?_
    refine j_iconst (v := 1) (pc := 1845) g dL_law_1845 (by decide) ?_
    refine j_iadd (pc := 1846) g dL_law_1846 ?_
    refine j_sld (pc := 1847) gl h1 dL_law_1847 ?_
    refine j_aload_n (pc := 1848) g 2 dL_law_1848 rfl ?_
    refine j_callH (pc := 1849) (na := 3) (As := [.ref (ad 0), .int (xs (i + 1).toNatClampNeg), .ref o]) (rest := []) (r := 0) (w' := ((o, .inl (t 4, 1, .inr (.inl (vp_updL fo (0 : Int32).toNatClampNeg r.toInt64)))) :: (od, .inl (t 5, 1, .inr (.inr (.inr (.inl fd))))) :: (mC am t σm ++ kW aa ad t σk1 []))) g (hL_holder_ok (rs := (od, .inl (t 5, 1, .inr (.inr (.inr (.inl fd))))) :: mC am t σm) hst hf) q_t_L_holder q_w_L_holder q_l_L_253 q_n_L (by decide) (by decide +kernel) rfl ⟨Nat.le_of_ble_eq_true rfl, Nat.le_of_ble_eq_true rfl⟩ ⟨by omega, by omega⟩ (Nat.le_of_ble_eq_true rfl) (lw_pm_h aa ad am t σk σm _ _) (lw_pm_h aa ad am t σk1 σm _ _).symm dL_law_1849 ?_ rfl
    have hkk : k + 0 ≤ room_1.cells := by omega
    have hnn : n + 0 ≤ room_1.slots := by omega
    refine j_istore (L' := [(6, .int 0), (5, .int i), (4, .ref od), (3, .ref o), (2, .ref (am 0)), (1, .ref (ad 0)), (0, .ref b)]) (pc := 1852) g dL_law_1852 (Nat.le_of_ble_eq_true rfl) rfl ?_
    refine j_aload_n (pc := 1854) g 4 dL_law_1854 rfl ?_
    refine j_aload_n (pc := 1855) g 6 dL_law_1855 rfl ?_
    refine j_iload (pc := 1856) g 1 dL_law_1856 rfl ?_
    refine j_iconst (v := 1) (pc := 1858) g dL_law_1858 (by decide) ?_
    refine j_iadd (pc := 1859) g dL_law_1859 ?_
    refine j_sld (pc := 1860) gl h1 dL_law_1860 ?_
    refine j_callVi (pc := 1861) (na := 1) (As := [.int (xs (i + 1).toNatClampNeg)]) (rest := []) (q0 := 2) (ci := 10) (w' := ((o, .inl (t 4, 1, .inr (.inl (vp_updL fo (0 : Int32).toNatClampNeg r.toInt64)))) :: (od, .inl (t 5, 1, .inr (.inr (.inr (.inl fd))))) :: (mC am t σm1 ++ kW aa ad t σk1 []))) g (cX9_holder_ (rs := (o, .inl (t 4, 1, .inr (.inl (vp_updL fo (0 : Int32).toNatClampNeg r.toInt64)))) :: (od, .inl (t 5, 1, .inr (.inr (.inr (.inl fd))))) :: kW aa ad t σk1 []) hm) q_i_X9_holder q_s_X9_holder rfl rfl rfl q_c_X9_holder q_l_L_255 q_n_X9 (by decide +kernel) rfl ⟨Nat.le_of_ble_eq_true rfl, Nat.le_of_ble_eq_true rfl⟩ ⟨hkk, hnn⟩ (Nat.le_of_ble_eq_true rfl) (lw_pm_m aa ad am t σk1 σm _ _) (lw_pm_m aa ad am t σk1 σm1 _ _).symm dL_law_1861 ?_ rfl
    refine j_istore (L' := [(7, .int r), (6, .int 0), (5, .int i), (4, .ref od), (3, .ref o), (2, .ref (am 0)), (1, .ref (ad 0)), (0, .ref b)]) (pc := 1864) g dL_law_1864 (Nat.le_of_ble_eq_true rfl) rfl ?_
    refine j_aload_n (pc := 1866) g 5 dL_law_1866 rfl ?_
    refine j_callVi (pc := 1867) (na := 0) (As := []) (rest := []) (q0 := 2) (ci := 10) (w' := ((o, .inl (t 4, 1, .inr (.inl (vp_updL fo (0 : Int32).toNatClampNeg r.toInt64)))) :: (od, .inl (t 5, 1, .inr (.inr (.inr (.inl fd))))) :: (mC am t σm1 ++ kW aa ad t σk1 []))) g (cX9_thrown_ (rs := (o, .inl (t 4, 1, .inr (.inl (vp_updL fo (0 : Int32).toNatClampNeg r.toInt64)))) :: (od, .inl (t 5, 1, .inr (.inr (.inr (.inl fd))))) :: kW aa ad t σk1 []) rfl) q_i_X9_thrown q_s_X9_thrown rfl rfl rfl q_c_X9_thrown q_l_L_155 q_n_X9 (by decide +kernel) rfl ⟨Nat.le_of_ble_eq_true rfl, Nat.le_of_ble_eq_true rfl⟩ ⟨hkk, hnn⟩ (Nat.le_of_ble_eq_true rfl) (lw_pm_m aa ad am t σk1 σm1 _ _) (lw_pm_m aa ad am t σk1 σm1 _ _).symm dL_law_1867 ?_ rfl
    refine j_iload (pc := 1870) g 1 dL_law_1870 rfl ?_
    refine j_icmp_eq (tgt := 1877) (pc := 1872) g dL_law_1872 (by decide) (fun _ => ?_) (fun h9 => absurd h0 h9)
    refine j_iload (pc := 1877) g 1 dL_law_1877 rfl ?_
    refine j_if_ne (tgt := 1894) (pc := 1879) g dL_law_1879 (by decide) (fun h9 => absurd rfl h9) (fun _ => ?_)
    refine j_aload_n (pc := 1882) g 4 dL_law_1882 rfl ?_
    refine j_iconst (v := 0) (pc := 1883) g dL_law_1883 (by decide) ?_
    refine j_lald (pc := 1884) g 0 rfl (show gx_in (0 : Int32) 1 by decide) dL_law_1884 ?_
    refine j_iload (pc := 1885) g 0 dL_law_1885 rfl ?_
    refine j_i2l (pc := 1887) g dL_law_1887 ?_
    refine j_lcmp (pc := 1888) g dL_law_1888 ?_
    refine j_if_eq (tgt := 1894) (pc := 1889) g dL_law_1889 (by decide) (fun _ => ?_) (fun h9 => absurd (lw_cmp0 _) h9)
    refine j_goto (tgt := 2781) (pc := 1894) g dL_law_1894 (by decide) ?_
    refine j_sub (pc := 2781) g [2, 3, 4, 5, 6, 7] rfl ?_
    exact j_widen g (by omega) (by omega) (next σk1 σm1 (vp_updL fo (0 : Int32).toNatClampNeg r.toInt64) fd hR)
  · refine j_aload_n (pc := 1841) g 4 dL_law_1841 rfl ?_
    refine j_aload_n (pc := 1842) g 5 dL_law_1842 rfl ?_
    refine j_iload (pc := 1843) g 0 dL_law_1843 rfl ?_
    refine j_iconst (v := 1) (pc := 1845) g dL_law_1845 (by decide) ?_
    refine j_iadd (pc := 1846) g dL_law_1846 ?_
    refine j_sld (pc := 1847) gl h1 dL_law_1847 ?_
    refine j_aload_n (pc := 1848) g 2 dL_law_1848 rfl ?_
    refine j_callH (pc := 1849) (na := 3) (As := [.ref (ad 0), .int (xs (i + 1).toNatClampNeg), .ref o]) (rest := []) (r := 1) (w' := ((o, .inl (t 4, 1, .inr (.inl fo))) :: (od, .inl (t 5, 1, .inr (.inr (.inr (.inl fd))))) :: (mC am t σm ++ kW aa ad t σk1 []))) g (hL_holder_x1 (rs := (od, .inl (t 5, 1, .inr (.inr (.inr (.inl fd))))) :: mC am t σm) hst hf) q_t_L_holder q_w_L_holder q_l_L_253 q_n_L (by decide) (by decide +kernel) rfl ⟨Nat.le_of_ble_eq_true rfl, Nat.le_of_ble_eq_true rfl⟩ ⟨by omega, by omega⟩ (Nat.le_of_ble_eq_true rfl) (lw_pm_h aa ad am t σk σm _ _) (lw_pm_h aa ad am t σk1 σm _ _).symm dL_law_1849 ?_ rfl
    have hkk : k + 1 ≤ room_1.cells := by omega
    have hnn : n + 6 ≤ room_1.slots := by omega
    refine j_istore (L' := [(6, .int 1), (5, .int i), (4, .ref od), (3, .ref o), (2, .ref (am 0)), (1, .ref (ad 0)), (0, .ref b)]) (pc := 1852) g dL_law_1852 (Nat.le_of_ble_eq_true rfl) rfl ?_
    refine j_aload_n (pc := 1854) g 4 dL_law_1854 rfl ?_
    refine j_aload_n (pc := 1855) g 6 dL_law_1855 rfl ?_
    refine j_iload (pc := 1856) g 1 dL_law_1856 rfl ?_
    refine j_iconst (v := 1) (pc := 1858) g dL_law_1858 (by decide) ?_
    refine j_iadd (pc := 1859) g dL_law_1859 ?_
    refine j_sld (pc := 1860) gl h1 dL_law_1860 ?_
    refine j_callVi (pc := 1861) (na := 1) (As := [.int (xs (i + 1).toNatClampNeg)]) (rest := []) (q0 := 2) (ci := 10) (w' := ((o, .inl (t 4, 1, .inr (.inl fo))) :: (od, .inl (t 5, 1, .inr (.inr (.inr (.inl fd))))) :: (mC am t σm1 ++ kW aa ad t σk1 []))) g (cX9_holder_ (rs := (o, .inl (t 4, 1, .inr (.inl fo))) :: (od, .inl (t 5, 1, .inr (.inr (.inr (.inl fd))))) :: kW aa ad t σk1 []) hm) q_i_X9_holder q_s_X9_holder rfl rfl rfl q_c_X9_holder q_l_L_255 q_n_X9 (by decide +kernel) rfl ⟨Nat.le_of_ble_eq_true rfl, Nat.le_of_ble_eq_true rfl⟩ ⟨hkk, hnn⟩ (Nat.le_of_ble_eq_true rfl) (lw_pm_m aa ad am t σk1 σm _ _) (lw_pm_m aa ad am t σk1 σm1 _ _).symm dL_law_1861 ?_ rfl
    refine j_istore (L' := [(7, .int r), (6, .int 1), (5, .int i), (4, .ref od), (3, .ref o), (2, .ref (am 0)), (1, .ref (ad 0)), (0, .ref b)]) (pc := 1864) g dL_law_1864 (Nat.le_of_ble_eq_true rfl) rfl ?_
    refine j_aload_n (pc := 1866) g 5 dL_law_1866 rfl ?_
    refine j_callVi (pc := 1867) (na := 0) (As := []) (rest := []) (q0 := 2) (ci := 10) (w' := ((o, .inl (t 4, 1, .inr (.inl fo))) :: (od, .inl (t 5, 1, .inr (.inr (.inr (.inl fd))))) :: (mC am t σm1 ++ kW aa ad t σk1 []))) g (cX9_thrown_ (rs := (o, .inl (t 4, 1, .inr (.inl fo))) :: (od, .inl (t 5, 1, .inr (.inr (.inr (.inl fd))))) :: kW aa ad t σk1 []) rfl) q_i_X9_thrown q_s_X9_thrown rfl rfl rfl q_c_X9_thrown q_l_L_155 q_n_X9 (by decide +kernel) rfl ⟨Nat.le_of_ble_eq_true rfl, Nat.le_of_ble_eq_true rfl⟩ ⟨hkk, hnn⟩ (Nat.le_of_ble_eq_true rfl) (lw_pm_m aa ad am t σk1 σm1 _ _) (lw_pm_m aa ad am t σk1 σm1 _ _).symm dL_law_1867 ?_ rfl
    refine j_iload (pc := 1870) g 1 dL_law_1870 rfl ?_
    refine j_icmp_eq (tgt := 1877) (pc := 1872) g dL_law_1872 (by decide) (fun _ => ?_) (fun h9 => absurd h0 h9)
    refine j_iload (pc := 1877) g 1 dL_law_1877 rfl ?_
    refine j_if_ne (tgt := 1894) (pc := 1879) g dL_law_1879 (by decide) (fun _ => ?_) (fun h9 => absurd h9 (by decide))
    refine j_goto (tgt := 2781) (pc := 1894) g dL_law_1894 (by decide) ?_
    refine j_sub (pc := 2781) g [2, 3, 4, 5, 6, 7] rfl ?_
    exact j_widen g (by omega) (by omega) (next σk1 σm1 fo fd hR)
set_option maxRecDepth 100000 in
set_option maxHeartbeats 4000000 in
theorem lw_c30 {D : va_G} {t : Nat → ClassId} {aa : gx_AA} {l : Launch} {J : gx_J} {b Ln : Nat} {xs : Nat → Int32} (gl : gx_GL D t (gx_E0 aa) l room_1 cL_law RL 10 J b Ln xs) (hst : l.stackTraces = false) {k n : Nat} (hk : k + 1 ≤ room_1.cells) (hn : n + 6 ≤ room_1.slots) {i : Int32} (h1 : vp_in (i + 1) Ln) (h2 : vp_in (i + 2) Ln) (h3 : vp_in (i + 3) Ln) {ad am : Nat → Nat} {o od : Nat} {σk : CS} {σm : OS} {fo : Nat → Int64} {fd : Nat → UInt64} {R : CS → OS → Prop} (hag : Ag_target R σk σm (xs (i + 1).toNatClampNeg)) (next : ∀ (σk2 : CS) (σm2 : OS) (fo2 : Nat → Int64) (fd2 : Nat → UInt64), R σk2 σm2 → J (k + 1) (n + 6) ((o, .inl (t 4, 1, .inr (.inl fo2))) :: (od, .inl (t 5, 1, .inr (.inr (.inr (.inl fd2))))) :: (mC am t σm2 ++ kW aa ad t σk2 [])) 2781 [(5, .int i), (4, .ref od), (3, .ref o), (2, .ref (am 0)), (1, .ref (ad 0)), (0, .ref b)] []) : J k n ((o, .inl (t 4, 1, .inr (.inl fo))) :: (od, .inl (t 5, 1, .inr (.inr (.inr (.inl fd))))) :: (mC am t σm ++ kW aa ad t σk [])) 1897 [(5, .int i), (4, .ref od), (3, .ref o), (2, .ref (am 0)), (1, .ref (ad 0)), (0, .ref b)] [] := by
  have g := gl.g
  have hkk : k ≤ room_1.cells := by omega
  have hnn : n ≤ room_1.slots := by omega
  obtain ⟨r, σm1, hm, hag⟩ := hag
  rcases hag with ⟨σk1, hf, h0, hR⟩ | ⟨σk1, hf, h0, hR⟩
  · refine j_aload_n (pc := 1897) g 4 dL_law_1897 rfl ?_
    refine j_aload_n (pc := 1898) g 5 dL_law_1898 rfl ?_
    refine j_iload (pc := 1899) g 0 dL_law_1899 rfl ?_
    refine j_iconst (v := 1) (pc := 1901) g dL_law_1901 (by decide) ?_
    refine j_iadd (pc := 1902) g dL_law_1902 ?_
    refine j_sld (pc := 1903) gl h1 dL_law_1903 ?_
    refine j_aload_n (pc := 1904) g 2 dL_law_1904 rfl ?_
    refine j_callH (pc := 1905) (na := 3) (As := [.ref (ad 0), .int (xs (i + 1).toNatClampNeg), .ref o]) (rest := []) (r := 0) (w' := ((o, .inl (t 4, 1, .inr (.inl (vp_updL fo (0 : Int32).toNatClampNeg r.toInt64)))) :: (od, .inl (t 5, 1, .inr (.inr (.inr (.inl fd))))) :: (mC am t σm ++ kW aa ad t σk1 []))) g (hL_target_ok (rs := (od, .inl (t 5, 1, .inr (.inr (.inr (.inl fd))))) :: mC am t σm) hst hf) q_t_L_target q_w_L_target q_l_L_256 q_n_L (by decide) (by decide +kernel) rfl ⟨Nat.le_of_ble_eq_true rfl, Nat.le_of_ble_eq_true rfl⟩ ⟨by omega, by omega⟩ (Nat.le_of_ble_eq_true rfl) (lw_pm_h aa ad am t σk σm _ _) (lw_pm_h aa ad am t σk1 σm _ _).symm dL_law_1905 ?_ rfl
    have hkk : k + 0 ≤ room_1.cells := by omega
    have hnn : n + 0 ≤ room_1.slots := by omega
    refine j_istore (L' := [(6, .int 0), (5, .int i), (4, .ref od), (3, .ref o), (2, .ref (am 0)), (1, .ref (ad 0)), (0, .ref b)]) (pc := 1908) g dL_law_1908 (Nat.le_of_ble_eq_true rfl) rfl ?_
    refine j_aload_n (pc := 1910) g 4 dL_law_1910 rfl ?_
    refine j_aload_n (pc := 1911) g 6 dL_law_1911 rfl ?_
    refine j_iload (pc := 1912) g 1 dL_law_1912 rfl ?_
    refine j_iconst (v := 1) (pc := 1914) g dL_law_1914 (by decide) ?_
    refine j_iadd (pc := 1915) g dL_law_1915 ?_
    refine j_sld (pc := 1916) gl h1 dL_law_1916 ?_
    refine j_callVi (pc := 1917) (na := 1) (As := [.int (xs (i + 1).toNatClampNeg)]) (rest := []) (q0 := 2) (ci := 10) (w' := ((o, .inl (t 4, 1, .inr (.inl (vp_updL fo (0 : Int32).toNatClampNeg r.toInt64)))) :: (od, .inl (t 5, 1, .inr (.inr (.inr (.inl fd))))) :: (mC am t σm1 ++ kW aa ad t σk1 []))) g (cX9_target_ (rs := (o, .inl (t 4, 1, .inr (.inl (vp_updL fo (0 : Int32).toNatClampNeg r.toInt64)))) :: (od, .inl (t 5, 1, .inr (.inr (.inr (.inl fd))))) :: kW aa ad t σk1 []) hm) q_i_X9_target q_s_X9_target rfl rfl rfl q_c_X9_target q_l_L_258 q_n_X9 (by decide +kernel) rfl ⟨Nat.le_of_ble_eq_true rfl, Nat.le_of_ble_eq_true rfl⟩ ⟨hkk, hnn⟩ (Nat.le_of_ble_eq_true rfl) (lw_pm_m aa ad am t σk1 σm _ _) (lw_pm_m aa ad am t σk1 σm1 _ _).symm dL_law_1917 ?_ rfl
    refine j_istore (L' := [(7, .int r), (6, .int 0), (5, .int i), (4, .ref od), (3, .ref o), (2, .ref (am 0)), (1, .ref (ad 0)), (0, .ref b)]) (pc := 1920) g dL_law_1920 (Nat.le_of_ble_eq_true rfl) rfl ?_
    refine j_aload_n (pc := 1922) g 5 dL_law_1922 rfl ?_
    refine j_callVi (pc := 1923) (na := 0) (As := []) (rest := []) (q0 := 2) (ci := 10) (w' := ((o, .inl (t 4, 1, .inr (.inl (vp_updL fo (0 : Int32).toNatClampNeg r.toInt64)))) :: (od, .inl (t 5, 1, .inr (.inr (.inr (.inl fd))))) :: (mC am t σm1 ++ kW aa ad t σk1 []))) g (cX9_thrown_ (rs := (o, .inl (t 4, 1, .inr (.inl (vp_updL fo (0 : Int32).toNatClampNeg r.toInt64)))) :: (od, .inl (t 5, 1, .inr (.inr (.inr (.inl fd))))) :: kW aa ad t σk1 []) rfl) q_i_X9_thrown q_s_X9_thrown rfl rfl rfl q_c_X9_thrown q_l_L_155 q_n_X9 (by decide +kernel) rfl ⟨Nat.le_of_ble_eq_true rfl, Nat.le_of_ble_eq_true rfl⟩ ⟨hkk, hnn⟩ (Nat.le_of_ble_eq_true rfl) (lw_pm_m aa ad am t σk1 σm1 _ _) (lw_pm_m aa ad am t σk1 σm1 _ _).symm dL_law_1923 ?_ rfl
    refine j_iload (pc := 1926) g 1 dL_law_1926 rfl ?_
    refine j_icmp_eq (tgt := 1933) (pc := 1928) g dL_law_1928 (by decide) (fun _ => ?_) (fun h9 => absurd h0 h9)
    refine j_iload (pc := 1933) g 1 dL_law_1933 rfl ?_
    refine j_if_ne (tgt := 1950) (pc := 1935) g dL_law_1935 (by decide) (fun h9 => absurd rfl h9) (fun _ => ?_)
    refine j_aload_n (pc := 1938) g 4 dL_law_1938 rfl ?_
    refine j_iconst (v := 0) (pc := 1939) g dL_law_1939 (by decide) ?_
    refine j_lald (pc := 1940) g 0 rfl (show gx_in (0 : Int32) 1 by decide) dL_law_1940 ?_
    refine j_iload (pc := 1941) g 0 dL_law_1941 rfl ?_
    refine j_i2l (pc := 1943) g dL_law_1943 ?_
    refine j_lcmp (pc := 1944) g dL_law_1944 ?_
    refine j_if_eq (tgt := 1950) (pc := 1945) g dL_law_1945 (by decide) (fun _ => ?_) (fun h9 => absurd (lw_cmp0 _) h9)
    refine j_goto (tgt := 2781) (pc := 1950) g dL_law_1950 (by decide) ?_
    refine j_sub (pc := 2781) g [2, 3, 4, 5, 6, 7] rfl ?_
    exact j_widen g (by omega) (by omega) (next σk1 σm1 (vp_updL fo (0 : Int32).toNatClampNeg r.toInt64) fd hR)
  · refine j_aload_n (pc := 1897) g 4 dL_law_1897 rfl ?_
    refine j_aload_n (pc := 1898) g 5 dL_law_1898 rfl ?_
    refine j_iload (pc := 1899) g 0 dL_law_1899 rfl ?_
    refine j_iconst (v := 1) (pc := 1901) g dL_law_1901 (by decide) ?_
    refine j_iadd (pc := 1902) g dL_law_1902 ?_
    refine j_sld (pc := 1903) gl h1 dL_law_1903 ?_
    refine j_aload_n (pc := 1904) g 2 dL_law_1904 rfl ?_
    refine j_callH (pc := 1905) (na := 3) (As := [.ref (ad 0), .int (xs (i + 1).toNatClampNeg), .ref o]) (rest := []) (r := 1) (w' := ((o, .inl (t 4, 1, .inr (.inl fo))) :: (od, .inl (t 5, 1, .inr (.inr (.inr (.inl fd))))) :: (mC am t σm ++ kW aa ad t σk1 []))) g (hL_target_x1 (rs := (od, .inl (t 5, 1, .inr (.inr (.inr (.inl fd))))) :: mC am t σm) hst hf) q_t_L_target q_w_L_target q_l_L_256 q_n_L (by decide) (by decide +kernel) rfl ⟨Nat.le_of_ble_eq_true rfl, Nat.le_of_ble_eq_true rfl⟩ ⟨by omega, by omega⟩ (Nat.le_of_ble_eq_true rfl) (lw_pm_h aa ad am t σk σm _ _) (lw_pm_h aa ad am t σk1 σm _ _).symm dL_law_1905 ?_ rfl
    have hkk : k + 1 ≤ room_1.cells := by omega
    have hnn : n + 6 ≤ room_1.slots := by omega
    refine j_istore (L' := [(6, .int 1), (5, .int i), (4, .ref od), (3, .ref o), (2, .ref (am 0)), (1, .ref (ad 0)), (0, .ref b)]) (pc := 1908) g dL_law_1908 (Nat.le_of_ble_eq_true rfl) rfl ?_
    refine j_aload_n (pc := 1910) g 4 dL_law_1910 rfl ?_
    refine j_aload_n (pc := 1911) g 6 dL_law_1911 rfl ?_
    refine j_iload (pc := 1912) g 1 dL_law_1912 rfl ?_
    refine j_iconst (v := 1) (pc := 1914) g dL_law_1914 (by decide) ?_
    refine j_iadd (pc := 1915) g dL_law_1915 ?_
    refine j_sld (pc := 1916) gl h1 dL_law_1916 ?_
    refine j_callVi (pc := 1917) (na := 1) (As := [.int (xs (i + 1).toNatClampNeg)]) (rest := []) (q0 := 2) (ci := 10) (w' := ((o, .inl (t 4, 1, .inr (.inl fo))) :: (od, .inl (t 5, 1, .inr (.inr (.inr (.inl fd))))) :: (mC am t σm1 ++ kW aa ad t σk1 []))) g (cX9_target_ (rs := (o, .inl (t 4, 1, .inr (.inl fo))) :: (od, .inl (t 5, 1, .inr (.inr (.inr (.inl fd))))) :: kW aa ad t σk1 []) hm) q_i_X9_target q_s_X9_target rfl rfl rfl q_c_X9_target q_l_L_258 q_n_X9 (by decide +kernel) rfl ⟨Nat.le_of_ble_eq_true rfl, Nat.le_of_ble_eq_true rfl⟩ ⟨hkk, hnn⟩ (Nat.le_of_ble_eq_true rfl) (lw_pm_m aa ad am t σk1 σm _ _) (lw_pm_m aa ad am t σk1 σm1 _ _).symm dL_law_1917 ?_ rfl
    refine j_istore (L' := [(7, .int r), (6, .int 1), (5, .int i), (4, .ref od), (3, .ref o), (2, .ref (am 0)), (1, .ref (ad 0)), (0, .ref b)]) (pc := 1920) g dL_law_1920 (Nat.le_of_ble_eq_true rfl) rfl ?_
    refine j_aload_n (pc := 1922) g 5 dL_law_1922 rfl ?_
    refine j_callVi (pc := 1923) (na := 0) (As := []) (rest := []) (q0 := 2) (ci := 10) (w' := ((o, .inl (t 4, 1, .inr (.inl fo))) :: (od, .inl (t 5, 1, .inr (.inr (.inr (.inl fd))))) :: (mC am t σm1 ++ kW aa ad t σk1 []))) g (cX9_thrown_ (rs := (o, .inl (t 4, 1, .inr (.inl fo))) :: (od, .inl (t 5, 1, .inr (.inr (.inr (.inl fd))))) :: kW aa ad t σk1 []) rfl) q_i_X9_thrown q_s_X9_thrown rfl rfl rfl q_c_X9_thrown q_l_L_155 q_n_X9 (by decide +kernel) rfl ⟨Nat.le_of_ble_eq_true rfl, Nat.le_of_ble_eq_true rfl⟩ ⟨hkk, hnn⟩ (Nat.le_of_ble_eq_true rfl) (lw_pm_m aa ad am t σk1 σm1 _ _) (lw_pm_m aa ad am t σk1 σm1 _ _).symm dL_law_1923 ?_ rfl
    refine j_iload (pc := 1926) g 1 dL_law_1926 rfl ?_
    refine j_icmp_eq (tgt := 1933) (pc := 1928) g dL_law_1928 (by decide) (fun _ => ?_) (fun h9 => absurd h0 h9)
    refine j_iload (pc := 1933) g 1 dL_law_1933 rfl ?_
    refine j_if_ne (tgt := 1950) (pc := 1935) g dL_law_1935 (by decide) (fun _ => ?_) (fun h9 => absurd h9 (by decide))
    refine j_goto (tgt := 2781) (pc := 1950) g dL_law_1950 (by decide) ?_
    refine j_sub (pc := 2781) g [2, 3, 4, 5, 6, 7] rfl ?_
    exact j_widen g (by omega) (by omega) (next σk1 σm1 fo fd hR)
set_option maxRecDepth 100000 in
set_option maxHeartbeats 4000000 in
theorem lw_c31 {D : va_G} {t : Nat → ClassId} {aa : gx_AA} {l : Launch} {J : gx_J} {b Ln : Nat} {xs : Nat → Int32} (gl : gx_GL D t (gx_E0 aa) l room_1 cL_law RL 10 J b Ln xs) (hst : l.stackTraces = false) {k n : Nat} (hk : k + 1 ≤ room_1.cells) (hn : n + 6 ≤ room_1.slots) {i : Int32} (h1 : vp_in (i + 1) Ln) (h2 : vp_in (i + 2) Ln) (h3 : vp_in (i + 3) Ln) {ad am : Nat → Nat} {o od : Nat} {σk : CS} {σm : OS} {fo : Nat → Int64} {fd : Nat → UInt64} {R : CS → OS → Prop} (hag : Ag_severity R σk σm (xs (i + 1).toNatClampNeg)) (next : ∀ (σk2 : CS) (σm2 : OS) (fo2 : Nat → Int64) (fd2 : Nat → UInt64), R σk2 σm2 → J (k + 1) (n + 6) ((o, .inl (t 4, 1, .inr (.inl fo2))) :: (od, .inl (t 5, 1, .inr (.inr (.inr (.inl fd2))))) :: (mC am t σm2 ++ kW aa ad t σk2 [])) 2781 [(5, .int i), (4, .ref od), (3, .ref o), (2, .ref (am 0)), (1, .ref (ad 0)), (0, .ref b)] []) : J k n ((o, .inl (t 4, 1, .inr (.inl fo))) :: (od, .inl (t 5, 1, .inr (.inr (.inr (.inl fd))))) :: (mC am t σm ++ kW aa ad t σk [])) 1953 [(5, .int i), (4, .ref od), (3, .ref o), (2, .ref (am 0)), (1, .ref (ad 0)), (0, .ref b)] [] := by
  have g := gl.g
  have hkk : k ≤ room_1.cells := by omega
  have hnn : n ≤ room_1.slots := by omega
  obtain ⟨r, σm1, hm, hag⟩ := hag
  rcases hag with ⟨σk1, hf, h0, hR⟩ | ⟨σk1, hf, h0, hR⟩
  · refine j_aload_n (pc := 1953) g 4 dL_law_1953 rfl ?_
    refine j_aload_n (pc := 1954) g 5 dL_law_1954 rfl ?_
    refine j_iload (pc := 1955) g 0 dL_law_1955 rfl ?_
    refine j_iconst (v := 1) (pc := 1957) g dL_law_1957 (by decide) ?_
    refine j_iadd (pc := 1958) g dL_law_1958 ?_
    refine j_sld (pc := 1959) gl h1 dL_law_1959 ?_
    refine j_aload_n (pc := 1960) g 2 dL_law_1960 rfl ?_
    refine j_callH (pc := 1961) (na := 3) (As := [.ref (ad 0), .int (xs (i + 1).toNatClampNeg), .ref o]) (rest := []) (r := 0) (w' := ((o, .inl (t 4, 1, .inr (.inl (vp_updL fo (0 : Int32).toNatClampNeg r.toInt64)))) :: (od, .inl (t 5, 1, .inr (.inr (.inr (.inl fd))))) :: (mC am t σm ++ kW aa ad t σk1 []))) g (hL_severity_ok (rs := (od, .inl (t 5, 1, .inr (.inr (.inr (.inl fd))))) :: mC am t σm) hst hf) q_t_L_severity q_w_L_severity q_l_L_259 q_n_L (by decide) (by decide +kernel) rfl ⟨Nat.le_of_ble_eq_true rfl, Nat.le_of_ble_eq_true rfl⟩ ⟨by omega, by omega⟩ (Nat.le_of_ble_eq_true rfl) (lw_pm_h aa ad am t σk σm _ _) (lw_pm_h aa ad am t σk1 σm _ _).symm dL_law_1961 ?_ rfl
    have hkk : k + 0 ≤ room_1.cells := by omega
    have hnn : n + 0 ≤ room_1.slots := by omega
    refine j_istore (L' := [(6, .int 0), (5, .int i), (4, .ref od), (3, .ref o), (2, .ref (am 0)), (1, .ref (ad 0)), (0, .ref b)]) (pc := 1964) g dL_law_1964 (Nat.le_of_ble_eq_true rfl) rfl ?_
    refine j_aload_n (pc := 1966) g 4 dL_law_1966 rfl ?_
    refine j_aload_n (pc := 1967) g 6 dL_law_1967 rfl ?_
    refine j_iload (pc := 1968) g 1 dL_law_1968 rfl ?_
    refine j_iconst (v := 1) (pc := 1970) g dL_law_1970 (by decide) ?_
    refine j_iadd (pc := 1971) g dL_law_1971 ?_
    refine j_sld (pc := 1972) gl h1 dL_law_1972 ?_
    refine j_callVi (pc := 1973) (na := 1) (As := [.int (xs (i + 1).toNatClampNeg)]) (rest := []) (q0 := 2) (ci := 10) (w' := ((o, .inl (t 4, 1, .inr (.inl (vp_updL fo (0 : Int32).toNatClampNeg r.toInt64)))) :: (od, .inl (t 5, 1, .inr (.inr (.inr (.inl fd))))) :: (mC am t σm1 ++ kW aa ad t σk1 []))) g (cX9_severity_ (rs := (o, .inl (t 4, 1, .inr (.inl (vp_updL fo (0 : Int32).toNatClampNeg r.toInt64)))) :: (od, .inl (t 5, 1, .inr (.inr (.inr (.inl fd))))) :: kW aa ad t σk1 []) hm) q_i_X9_severity q_s_X9_severity rfl rfl rfl q_c_X9_severity q_l_L_261 q_n_X9 (by decide +kernel) rfl ⟨Nat.le_of_ble_eq_true rfl, Nat.le_of_ble_eq_true rfl⟩ ⟨hkk, hnn⟩ (Nat.le_of_ble_eq_true rfl) (lw_pm_m aa ad am t σk1 σm _ _) (lw_pm_m aa ad am t σk1 σm1 _ _).symm dL_law_1973 ?_ rfl
    refine j_istore (L' := [(7, .int r), (6, .int 0), (5, .int i), (4, .ref od), (3, .ref o), (2, .ref (am 0)), (1, .ref (ad 0)), (0, .ref b)]) (pc := 1976) g dL_law_1976 (Nat.le_of_ble_eq_true rfl) rfl ?_
    refine j_aload_n (pc := 1978) g 5 dL_law_1978 rfl ?_
    refine j_callVi (pc := 1979) (na := 0) (As := []) (rest := []) (q0 := 2) (ci := 10) (w' := ((o, .inl (t 4, 1, .inr (.inl (vp_updL fo (0 : Int32).toNatClampNeg r.toInt64)))) :: (od, .inl (t 5, 1, .inr (.inr (.inr (.inl fd))))) :: (mC am t σm1 ++ kW aa ad t σk1 []))) g (cX9_thrown_ (rs := (o, .inl (t 4, 1, .inr (.inl (vp_updL fo (0 : Int32).toNatClampNeg r.toInt64)))) :: (od, .inl (t 5, 1, .inr (.inr (.inr (.inl fd))))) :: kW aa ad t σk1 []) rfl) q_i_X9_thrown q_s_X9_thrown rfl rfl rfl q_c_X9_thrown q_l_L_155 q_n_X9 (by decide +kernel) rfl ⟨Nat.le_of_ble_eq_true rfl, Nat.le_of_ble_eq_true rfl⟩ ⟨hkk, hnn⟩ (Nat.le_of_ble_eq_true rfl) (lw_pm_m aa ad am t σk1 σm1 _ _) (lw_pm_m aa ad am t σk1 σm1 _ _).symm dL_law_1979 ?_ rfl
    refine j_iload (pc := 1982) g 1 dL_law_1982 rfl ?_
    refine j_icmp_eq (tgt := 1989) (pc := 1984) g dL_law_1984 (by decide) (fun _ => ?_) (fun h9 => absurd h0 h9)
    refine j_iload (pc := 1989) g 1 dL_law_1989 rfl ?_
    refine j_if_ne (tgt := 2006) (pc := 1991) g dL_law_1991 (by decide) (fun h9 => absurd rfl h9) (fun _ => ?_)
    refine j_aload_n (pc := 1994) g 4 dL_law_1994 rfl ?_
    refine j_iconst (v := 0) (pc := 1995) g dL_law_1995 (by decide) ?_
    refine j_lald (pc := 1996) g 0 rfl (show gx_in (0 : Int32) 1 by decide) dL_law_1996 ?_
    refine j_iload (pc := 1997) g 0 dL_law_1997 rfl ?_
    refine j_i2l (pc := 1999) g dL_law_1999 ?_
    refine j_lcmp (pc := 2000) g dL_law_2000 ?_
    refine j_if_eq (tgt := 2006) (pc := 2001) g dL_law_2001 (by decide) (fun _ => ?_) (fun h9 => absurd (lw_cmp0 _) h9)
    refine j_goto (tgt := 2781) (pc := 2006) g dL_law_2006 (by decide) ?_
    refine j_sub (pc := 2781) g [2, 3, 4, 5, 6, 7] rfl ?_
    exact j_widen g (by omega) (by omega) (next σk1 σm1 (vp_updL fo (0 : Int32).toNatClampNeg r.toInt64) fd hR)
  · refine j_aload_n (pc := 1953) g 4 dL_law_1953 rfl ?_
    refine j_aload_n (pc := 1954) g 5 dL_law_1954 rfl ?_
    refine j_iload (pc := 1955) g 0 dL_law_1955 rfl ?_
    refine j_iconst (v := 1) (pc := 1957) g dL_law_1957 (by decide) ?_
    refine j_iadd (pc := 1958) g dL_law_1958 ?_
    refine j_sld (pc := 1959) gl h1 dL_law_1959 ?_
    refine j_aload_n (pc := 1960) g 2 dL_law_1960 rfl ?_
    refine j_callH (pc := 1961) (na := 3) (As := [.ref (ad 0), .int (xs (i + 1).toNatClampNeg), .ref o]) (rest := []) (r := 1) (w' := ((o, .inl (t 4, 1, .inr (.inl fo))) :: (od, .inl (t 5, 1, .inr (.inr (.inr (.inl fd))))) :: (mC am t σm ++ kW aa ad t σk1 []))) g (hL_severity_x1 (rs := (od, .inl (t 5, 1, .inr (.inr (.inr (.inl fd))))) :: mC am t σm) hst hf) q_t_L_severity q_w_L_severity q_l_L_259 q_n_L (by decide) (by decide +kernel) rfl ⟨Nat.le_of_ble_eq_true rfl, Nat.le_of_ble_eq_true rfl⟩ ⟨by omega, by omega⟩ (Nat.le_of_ble_eq_true rfl) (lw_pm_h aa ad am t σk σm _ _) (lw_pm_h aa ad am t σk1 σm _ _).symm dL_law_1961 ?_ rfl
    have hkk : k + 1 ≤ room_1.cells := by omega
    have hnn : n + 6 ≤ room_1.slots := by omega
    refine j_istore (L' := [(6, .int 1), (5, .int i), (4, .ref od), (3, .ref o), (2, .ref (am 0)), (1, .ref (ad 0)), (0, .ref b)]) (pc := 1964) g dL_law_1964 (Nat.le_of_ble_eq_true rfl) rfl ?_
    refine j_aload_n (pc := 1966) g 4 dL_law_1966 rfl ?_
    refine j_aload_n (pc := 1967) g 6 dL_law_1967 rfl ?_
    refine j_iload (pc := 1968) g 1 dL_law_1968 rfl ?_
    refine j_iconst (v := 1) (pc := 1970) g dL_law_1970 (by decide) ?_
    refine j_iadd (pc := 1971) g dL_law_1971 ?_
    refine j_sld (pc := 1972) gl h1 dL_law_1972 ?_
    refine j_callVi (pc := 1973) (na := 1) (As := [.int (xs (i + 1).toNatClampNeg)]) (rest := []) (q0 := 2) (ci := 10) (w' := ((o, .inl (t 4, 1, .inr (.inl fo))) :: (od, .inl (t 5, 1, .inr (.inr (.inr (.inl fd))))) :: (mC am t σm1 ++ kW aa ad t σk1 []))) g (cX9_severity_ (rs := (o, .inl (t 4, 1, .inr (.inl fo))) :: (od, .inl (t 5, 1, .inr (.inr (.inr (.inl fd))))) :: kW aa ad t σk1 []) hm) q_i_X9_severity q_s_X9_severity rfl rfl rfl q_c_X9_severity q_l_L_261 q_n_X9 (by decide +kernel) rfl ⟨Nat.le_of_ble_eq_true rfl, Nat.le_of_ble_eq_true rfl⟩ ⟨hkk, hnn⟩ (Nat.le_of_ble_eq_true rfl) (lw_pm_m aa ad am t σk1 σm _ _) (lw_pm_m aa ad am t σk1 σm1 _ _).symm dL_law_1973 ?_ rfl
    refine j_istore (L' := [(7, .int r), (6, .int 1), (5, .int i), (4, .ref od), (3, .ref o), (2, .ref (am 0)), (1, .ref (ad 0)), (0, .ref b)]) (pc := 1976) g dL_law_1976 (Nat.le_of_ble_eq_true rfl) rfl ?_
    refine j_aload_n (pc := 1978) g 5 dL_law_1978 rfl ?_
    refine j_callVi (pc := 1979) (na := 0) (As := []) (rest := []) (q0 := 2) (ci := 10) (w' := ((o, .inl (t 4, 1, .inr (.inl fo))) :: (od, .inl (t 5, 1, .inr (.inr (.inr (.inl fd))))) :: (mC am t σm1 ++ kW aa ad t σk1 []))) g (cX9_thrown_ (rs := (o, .inl (t 4, 1, .inr (.inl fo))) :: (od, .inl (t 5, 1, .inr (.inr (.inr (.inl fd))))) :: kW aa ad t σk1 []) rfl) q_i_X9_thrown q_s_X9_thrown rfl rfl rfl q_c_X9_thrown q_l_L_155 q_n_X9 (by decide +kernel) rfl ⟨Nat.le_of_ble_eq_true rfl, Nat.le_of_ble_eq_true rfl⟩ ⟨hkk, hnn⟩ (Nat.le_of_ble_eq_true rfl) (lw_pm_m aa ad am t σk1 σm1 _ _) (lw_pm_m aa ad am t σk1 σm1 _ _).symm dL_law_1979 ?_ rfl
    refine j_iload (pc := 1982) g 1 dL_law_1982 rfl ?_
    refine j_icmp_eq (tgt := 1989) (pc := 1984) g dL_law_1984 (by decide) (fun _ => ?_) (fun h9 => absurd h0 h9)
    refine j_iload (pc := 1989) g 1 dL_law_1989 rfl ?_
    refine j_if_ne (tgt := 2006) (pc := 1991) g dL_law_1991 (by decide) (fun _ => ?_) (fun h9 => absurd h9 (by decide))
    refine j_goto (tgt := 2781) (pc := 2006) g dL_law_2006 (by decide) ?_
    refine j_sub (pc := 2781) g [2, 3, 4, 5, 6, 7] rfl ?_
    exact j_widen g (by omega) (by omega) (next σk1 σm1 fo fd hR)
