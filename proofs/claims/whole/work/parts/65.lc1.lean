set_option maxRecDepth 100000 in
set_option maxHeartbeats 4000000 in
theorem lw_c8 {D : va_G} {t : Nat → ClassId} {aa : gx_AA} {l : Launch} {J : gx_J} {b Ln : Nat} {xs : Nat → Int32} (gl : gx_GL D t (gx_E0 aa) l room_1 cL_law RL 10 J b Ln xs) (hst : l.stackTraces = false) {k n : Nat} (hk : k + 1 ≤ room_1.cells) (hn : n + 6 ≤ room_1.slots) {i : Int32} (h1 : vp_in (i + 1) Ln) (h2 : vp_in (i + 2) Ln) (h3 : vp_in (i + 3) Ln) {ad am : Nat → Nat} {o od : Nat} {σk : CS} {σm : OS} {fo : Nat → Int64} {fd : Nat → UInt64} {R : CS → OS → Prop} (hag : Ag_hour R σk σm) (next : ∀ (σk2 : CS) (σm2 : OS) (fo2 : Nat → Int64) (fd2 : Nat → UInt64), R σk2 σm2 → J (k + 1) (n + 6) ((o, .inl (t 4, 1, .inr (.inl fo2))) :: (od, .inl (t 5, 1, .inr (.inr (.inr (.inl fd2))))) :: (mC am t σm2 ++ kW aa ad t σk2 [])) 2781 [(5, .int i), (4, .ref od), (3, .ref o), (2, .ref (am 0)), (1, .ref (ad 0)), (0, .ref b)] []) : J k n ((o, .inl (t 4, 1, .inr (.inl fo))) :: (od, .inl (t 5, 1, .inr (.inr (.inr (.inl fd))))) :: (mC am t σm ++ kW aa ad t σk [])) 820 [(5, .int i), (4, .ref od), (3, .ref o), (2, .ref (am 0)), (1, .ref (ad 0)), (0, .ref b)] [] := by
  have g := gl.g
  have hkk : k ≤ room_1.cells := by omega
  have hnn : n ≤ room_1.slots := by omega
  obtain ⟨r, σm1, hm, hf, hR⟩ := hag
  refine j_aload_n (pc := 820) g 4 dL_law_820 rfl ?_
  refine j_callVi (pc := 821) (na := 0) (As := []) (rest := []) (q0 := 10) (ci := 9) (w' := ((o, .inl (t 4, 1, .inr (.inl fo))) :: (od, .inl (t 5, 1, .inr (.inr (.inr (.inl fd))))) :: (mC am t σm ++ kW aa ad t σk []))) g (cX8_hour_ (rs := (o, .inl (t 4, 1, .inr (.inl fo))) :: (od, .inl (t 5, 1, .inr (.inr (.inr (.inl fd))))) :: mC am t σm) hf) q_i_X8_hour q_s_X8_hour rfl rfl (lw_at9 aa ad am t σk σm _ _) q_c_X8_hour q_l_L_183 q_n_X8 (by decide +kernel) rfl ⟨Nat.le_of_ble_eq_true rfl, Nat.le_of_ble_eq_true rfl⟩ ⟨hkk, hnn⟩ (Nat.le_of_ble_eq_true rfl) (lw_pm_k aa ad am t σk σm _ _) (lw_pm_k aa ad am t σk σm _ _).symm dL_law_821 ?_ rfl
  refine j_aload_n (pc := 824) g 3 dL_law_824 rfl ?_
  refine j_callVi (pc := 825) (na := 0) (As := []) (rest := [.int r]) (q0 := 2) (ci := 10) (w' := ((o, .inl (t 4, 1, .inr (.inl fo))) :: (od, .inl (t 5, 1, .inr (.inr (.inr (.inl fd))))) :: (mC am t σm1 ++ kW aa ad t σk []))) g (cX9_hour_ (rs := (o, .inl (t 4, 1, .inr (.inl fo))) :: (od, .inl (t 5, 1, .inr (.inr (.inr (.inl fd))))) :: kW aa ad t σk []) hm) q_i_X9_hour q_s_X9_hour rfl rfl rfl q_c_X9_hour q_l_L_186 q_n_X9 (by decide +kernel) rfl ⟨Nat.le_of_ble_eq_true rfl, Nat.le_of_ble_eq_true rfl⟩ ⟨hkk, hnn⟩ (Nat.le_of_ble_eq_true rfl) (lw_pm_m aa ad am t σk σm _ _) (lw_pm_m aa ad am t σk σm1 _ _).symm dL_law_825 ?_ rfl
  refine j_icmp_eq (tgt := 2781) (pc := 828) g dL_law_828 (by decide) (fun _ => ?_) (fun h9 => absurd rfl h9)
  refine j_sub (pc := 2781) g [0, 1, 2, 3, 4, 5] rfl ?_
  exact j_widen g (by omega) (by omega) (next σk σm1 fo fd hR)
set_option maxRecDepth 100000 in
set_option maxHeartbeats 4000000 in
theorem lw_c9 {D : va_G} {t : Nat → ClassId} {aa : gx_AA} {l : Launch} {J : gx_J} {b Ln : Nat} {xs : Nat → Int32} (gl : gx_GL D t (gx_E0 aa) l room_1 cL_law RL 10 J b Ln xs) (hst : l.stackTraces = false) {k n : Nat} (hk : k + 1 ≤ room_1.cells) (hn : n + 6 ≤ room_1.slots) {i : Int32} (h1 : vp_in (i + 1) Ln) (h2 : vp_in (i + 2) Ln) (h3 : vp_in (i + 3) Ln) {ad am : Nat → Nat} {o od : Nat} {σk : CS} {σm : OS} {fo : Nat → Int64} {fd : Nat → UInt64} {R : CS → OS → Prop} (hag : Ag_officerCount R σk σm) (next : ∀ (σk2 : CS) (σm2 : OS) (fo2 : Nat → Int64) (fd2 : Nat → UInt64), R σk2 σm2 → J (k + 1) (n + 6) ((o, .inl (t 4, 1, .inr (.inl fo2))) :: (od, .inl (t 5, 1, .inr (.inr (.inr (.inl fd2))))) :: (mC am t σm2 ++ kW aa ad t σk2 [])) 2781 [(5, .int i), (4, .ref od), (3, .ref o), (2, .ref (am 0)), (1, .ref (ad 0)), (0, .ref b)] []) : J k n ((o, .inl (t 4, 1, .inr (.inl fo))) :: (od, .inl (t 5, 1, .inr (.inr (.inr (.inl fd))))) :: (mC am t σm ++ kW aa ad t σk [])) 833 [(5, .int i), (4, .ref od), (3, .ref o), (2, .ref (am 0)), (1, .ref (ad 0)), (0, .ref b)] [] := by
  have g := gl.g
  have hkk : k ≤ room_1.cells := by omega
  have hnn : n ≤ room_1.slots := by omega
  obtain ⟨r, σm1, hm, hf, hR⟩ := hag
  refine j_aload_n (pc := 833) g 4 dL_law_833 rfl ?_
  refine j_callVi (pc := 834) (na := 0) (As := []) (rest := []) (q0 := 10) (ci := 9) (w' := ((o, .inl (t 4, 1, .inr (.inl fo))) :: (od, .inl (t 5, 1, .inr (.inr (.inr (.inl fd))))) :: (mC am t σm ++ kW aa ad t σk []))) g (cX8_officerCount_ (rs := (o, .inl (t 4, 1, .inr (.inl fo))) :: (od, .inl (t 5, 1, .inr (.inr (.inr (.inl fd))))) :: mC am t σm) hf) q_i_X8_officerCount q_s_X8_officerCount rfl rfl (lw_at9 aa ad am t σk σm _ _) q_c_X8_officerCount q_l_L_187 q_n_X8 (by decide +kernel) rfl ⟨Nat.le_of_ble_eq_true rfl, Nat.le_of_ble_eq_true rfl⟩ ⟨hkk, hnn⟩ (Nat.le_of_ble_eq_true rfl) (lw_pm_k aa ad am t σk σm _ _) (lw_pm_k aa ad am t σk σm _ _).symm dL_law_834 ?_ rfl
  refine j_aload_n (pc := 837) g 3 dL_law_837 rfl ?_
  refine j_callVi (pc := 838) (na := 0) (As := []) (rest := [.int r]) (q0 := 2) (ci := 10) (w' := ((o, .inl (t 4, 1, .inr (.inl fo))) :: (od, .inl (t 5, 1, .inr (.inr (.inr (.inl fd))))) :: (mC am t σm1 ++ kW aa ad t σk []))) g (cX9_officerCount_ (rs := (o, .inl (t 4, 1, .inr (.inl fo))) :: (od, .inl (t 5, 1, .inr (.inr (.inr (.inl fd))))) :: kW aa ad t σk []) hm) q_i_X9_officerCount q_s_X9_officerCount rfl rfl rfl q_c_X9_officerCount q_l_L_190 q_n_X9 (by decide +kernel) rfl ⟨Nat.le_of_ble_eq_true rfl, Nat.le_of_ble_eq_true rfl⟩ ⟨hkk, hnn⟩ (Nat.le_of_ble_eq_true rfl) (lw_pm_m aa ad am t σk σm _ _) (lw_pm_m aa ad am t σk σm1 _ _).symm dL_law_838 ?_ rfl
  refine j_icmp_eq (tgt := 2781) (pc := 841) g dL_law_841 (by decide) (fun _ => ?_) (fun h9 => absurd rfl h9)
  refine j_sub (pc := 2781) g [0, 1, 2, 3, 4, 5] rfl ?_
  exact j_widen g (by omega) (by omega) (next σk σm1 fo fd hR)
set_option maxRecDepth 100000 in
set_option maxHeartbeats 4000000 in
theorem lw_c10 {D : va_G} {t : Nat → ClassId} {aa : gx_AA} {l : Launch} {J : gx_J} {b Ln : Nat} {xs : Nat → Int32} (gl : gx_GL D t (gx_E0 aa) l room_1 cL_law RL 10 J b Ln xs) (hst : l.stackTraces = false) {k n : Nat} (hk : k + 1 ≤ room_1.cells) (hn : n + 6 ≤ room_1.slots) {i : Int32} (h1 : vp_in (i + 1) Ln) (h2 : vp_in (i + 2) Ln) (h3 : vp_in (i + 3) Ln) {ad am : Nat → Nat} {o od : Nat} {σk : CS} {σm : OS} {fo : Nat → Int64} {fd : Nat → UInt64} {R : CS → OS → Prop} (hag : Ag_appointedCount R σk σm) (next : ∀ (σk2 : CS) (σm2 : OS) (fo2 : Nat → Int64) (fd2 : Nat → UInt64), R σk2 σm2 → J (k + 1) (n + 6) ((o, .inl (t 4, 1, .inr (.inl fo2))) :: (od, .inl (t 5, 1, .inr (.inr (.inr (.inl fd2))))) :: (mC am t σm2 ++ kW aa ad t σk2 [])) 2781 [(5, .int i), (4, .ref od), (3, .ref o), (2, .ref (am 0)), (1, .ref (ad 0)), (0, .ref b)] []) : J k n ((o, .inl (t 4, 1, .inr (.inl fo))) :: (od, .inl (t 5, 1, .inr (.inr (.inr (.inl fd))))) :: (mC am t σm ++ kW aa ad t σk [])) 846 [(5, .int i), (4, .ref od), (3, .ref o), (2, .ref (am 0)), (1, .ref (ad 0)), (0, .ref b)] [] := by
  have g := gl.g
  have hkk : k ≤ room_1.cells := by omega
  have hnn : n ≤ room_1.slots := by omega
  obtain ⟨r, σm1, hm, hf, hR⟩ := hag
  refine j_aload_n (pc := 846) g 4 dL_law_846 rfl ?_
  refine j_callVi (pc := 847) (na := 0) (As := []) (rest := []) (q0 := 10) (ci := 9) (w' := ((o, .inl (t 4, 1, .inr (.inl fo))) :: (od, .inl (t 5, 1, .inr (.inr (.inr (.inl fd))))) :: (mC am t σm ++ kW aa ad t σk []))) g (cX8_appointedCount_ (rs := (o, .inl (t 4, 1, .inr (.inl fo))) :: (od, .inl (t 5, 1, .inr (.inr (.inr (.inl fd))))) :: mC am t σm) hf) q_i_X8_appointedCount q_s_X8_appointedCount rfl rfl (lw_at9 aa ad am t σk σm _ _) q_c_X8_appointedCount q_l_L_191 q_n_X8 (by decide +kernel) rfl ⟨Nat.le_of_ble_eq_true rfl, Nat.le_of_ble_eq_true rfl⟩ ⟨hkk, hnn⟩ (Nat.le_of_ble_eq_true rfl) (lw_pm_k aa ad am t σk σm _ _) (lw_pm_k aa ad am t σk σm _ _).symm dL_law_847 ?_ rfl
  refine j_aload_n (pc := 850) g 3 dL_law_850 rfl ?_
  refine j_callVi (pc := 851) (na := 0) (As := []) (rest := [.int r]) (q0 := 2) (ci := 10) (w' := ((o, .inl (t 4, 1, .inr (.inl fo))) :: (od, .inl (t 5, 1, .inr (.inr (.inr (.inl fd))))) :: (mC am t σm1 ++ kW aa ad t σk []))) g (cX9_appointedCount_ (rs := (o, .inl (t 4, 1, .inr (.inl fo))) :: (od, .inl (t 5, 1, .inr (.inr (.inr (.inl fd))))) :: kW aa ad t σk []) hm) q_i_X9_appointedCount q_s_X9_appointedCount rfl rfl rfl q_c_X9_appointedCount q_l_L_194 q_n_X9 (by decide +kernel) rfl ⟨Nat.le_of_ble_eq_true rfl, Nat.le_of_ble_eq_true rfl⟩ ⟨hkk, hnn⟩ (Nat.le_of_ble_eq_true rfl) (lw_pm_m aa ad am t σk σm _ _) (lw_pm_m aa ad am t σk σm1 _ _).symm dL_law_851 ?_ rfl
  refine j_icmp_eq (tgt := 2781) (pc := 854) g dL_law_854 (by decide) (fun _ => ?_) (fun h9 => absurd rfl h9)
  refine j_sub (pc := 2781) g [0, 1, 2, 3, 4, 5] rfl ?_
  exact j_widen g (by omega) (by omega) (next σk σm1 fo fd hR)
set_option maxRecDepth 100000 in
set_option maxHeartbeats 4000000 in
theorem lw_c11 {D : va_G} {t : Nat → ClassId} {aa : gx_AA} {l : Launch} {J : gx_J} {b Ln : Nat} {xs : Nat → Int32} (gl : gx_GL D t (gx_E0 aa) l room_1 cL_law RL 10 J b Ln xs) (hst : l.stackTraces = false) {k n : Nat} (hk : k + 1 ≤ room_1.cells) (hn : n + 6 ≤ room_1.slots) {i : Int32} (h1 : vp_in (i + 1) Ln) (h2 : vp_in (i + 2) Ln) (h3 : vp_in (i + 3) Ln) {ad am : Nat → Nat} {o od : Nat} {σk : CS} {σm : OS} {fo : Nat → Int64} {fd : Nat → UInt64} {R : CS → OS → Prop} (hag : Ag_isInNavy R σk σm (xs (i + 1).toNatClampNeg)) (next : ∀ (σk2 : CS) (σm2 : OS) (fo2 : Nat → Int64) (fd2 : Nat → UInt64), R σk2 σm2 → J (k + 1) (n + 6) ((o, .inl (t 4, 1, .inr (.inl fo2))) :: (od, .inl (t 5, 1, .inr (.inr (.inr (.inl fd2))))) :: (mC am t σm2 ++ kW aa ad t σk2 [])) 2781 [(5, .int i), (4, .ref od), (3, .ref o), (2, .ref (am 0)), (1, .ref (ad 0)), (0, .ref b)] []) : J k n ((o, .inl (t 4, 1, .inr (.inl fo))) :: (od, .inl (t 5, 1, .inr (.inr (.inr (.inl fd))))) :: (mC am t σm ++ kW aa ad t σk [])) 859 [(5, .int i), (4, .ref od), (3, .ref o), (2, .ref (am 0)), (1, .ref (ad 0)), (0, .ref b)] [] := by
  have g := gl.g
  have hkk : k ≤ room_1.cells := by omega
  have hnn : n ≤ room_1.slots := by omega
  obtain ⟨r, σm1, hm, hf, hR⟩ := hag
  refine j_aload_n (pc := 859) g 4 dL_law_859 rfl ?_
  refine j_aload_n (pc := 860) g 5 dL_law_860 rfl ?_
  refine j_iload (pc := 861) g 0 dL_law_861 rfl ?_
  refine j_iconst (v := 1) (pc := 863) g dL_law_863 (by decide) ?_
  refine j_iadd (pc := 864) g dL_law_864 ?_
  refine j_sld (pc := 865) gl h1 dL_law_865 ?_
  refine j_callVi (pc := 866) (na := 1) (As := [.int (xs (i + 1).toNatClampNeg)]) (rest := []) (q0 := 10) (ci := 9) (w' := ((o, .inl (t 4, 1, .inr (.inl fo))) :: (od, .inl (t 5, 1, .inr (.inr (.inr (.inl fd))))) :: (mC am t σm ++ kW aa ad t σk []))) g (cX8_isInNavy_ (rs := (o, .inl (t 4, 1, .inr (.inl fo))) :: (od, .inl (t 5, 1, .inr (.inr (.inr (.inl fd))))) :: mC am t σm) hf) q_i_X8_isInNavy q_s_X8_isInNavy rfl rfl (lw_at9 aa ad am t σk σm _ _) q_c_X8_isInNavy q_l_L_195 q_n_X8 (by decide +kernel) rfl ⟨Nat.le_of_ble_eq_true rfl, Nat.le_of_ble_eq_true rfl⟩ ⟨hkk, hnn⟩ (Nat.le_of_ble_eq_true rfl) (lw_pm_k aa ad am t σk σm _ _) (lw_pm_k aa ad am t σk σm _ _).symm dL_law_866 ?_ rfl
  refine j_aload_n (pc := 869) g 3 dL_law_869 rfl ?_
  refine j_aload_n (pc := 870) g 5 dL_law_870 rfl ?_
  refine j_iload (pc := 871) g 0 dL_law_871 rfl ?_
  refine j_iconst (v := 1) (pc := 873) g dL_law_873 (by decide) ?_
  refine j_iadd (pc := 874) g dL_law_874 ?_
  refine j_sld (pc := 875) gl h1 dL_law_875 ?_
  refine j_callVi (pc := 876) (na := 1) (As := [.int (xs (i + 1).toNatClampNeg)]) (rest := [.int r]) (q0 := 2) (ci := 10) (w' := ((o, .inl (t 4, 1, .inr (.inl fo))) :: (od, .inl (t 5, 1, .inr (.inr (.inr (.inl fd))))) :: (mC am t σm1 ++ kW aa ad t σk []))) g (cX9_isInNavy_ (rs := (o, .inl (t 4, 1, .inr (.inl fo))) :: (od, .inl (t 5, 1, .inr (.inr (.inr (.inl fd))))) :: kW aa ad t σk []) hm) q_i_X9_isInNavy q_s_X9_isInNavy rfl rfl rfl q_c_X9_isInNavy q_l_L_199 q_n_X9 (by decide +kernel) rfl ⟨Nat.le_of_ble_eq_true rfl, Nat.le_of_ble_eq_true rfl⟩ ⟨hkk, hnn⟩ (Nat.le_of_ble_eq_true rfl) (lw_pm_m aa ad am t σk σm _ _) (lw_pm_m aa ad am t σk σm1 _ _).symm dL_law_876 ?_ rfl
  refine j_icmp_eq (tgt := 2781) (pc := 879) g dL_law_879 (by decide) (fun _ => ?_) (fun h9 => absurd rfl h9)
  refine j_sub (pc := 2781) g [0, 1, 2, 3, 4, 5] rfl ?_
  exact j_widen g (by omega) (by omega) (next σk σm1 fo fd hR)
set_option maxRecDepth 100000 in
set_option maxHeartbeats 4000000 in
theorem lw_c12 {D : va_G} {t : Nat → ClassId} {aa : gx_AA} {l : Launch} {J : gx_J} {b Ln : Nat} {xs : Nat → Int32} (gl : gx_GL D t (gx_E0 aa) l room_1 cL_law RL 10 J b Ln xs) (hst : l.stackTraces = false) {k n : Nat} (hk : k + 1 ≤ room_1.cells) (hn : n + 6 ≤ room_1.slots) {i : Int32} (h1 : vp_in (i + 1) Ln) (h2 : vp_in (i + 2) Ln) (h3 : vp_in (i + 3) Ln) {ad am : Nat → Nat} {o od : Nat} {σk : CS} {σm : OS} {fo : Nat → Int64} {fd : Nat → UInt64} {R : CS → OS → Prop} (hag : Ag_rank R σk σm (xs (i + 1).toNatClampNeg)) (next : ∀ (σk2 : CS) (σm2 : OS) (fo2 : Nat → Int64) (fd2 : Nat → UInt64), R σk2 σm2 → J (k + 1) (n + 6) ((o, .inl (t 4, 1, .inr (.inl fo2))) :: (od, .inl (t 5, 1, .inr (.inr (.inr (.inl fd2))))) :: (mC am t σm2 ++ kW aa ad t σk2 [])) 2781 [(5, .int i), (4, .ref od), (3, .ref o), (2, .ref (am 0)), (1, .ref (ad 0)), (0, .ref b)] []) : J k n ((o, .inl (t 4, 1, .inr (.inl fo))) :: (od, .inl (t 5, 1, .inr (.inr (.inr (.inl fd))))) :: (mC am t σm ++ kW aa ad t σk [])) 884 [(5, .int i), (4, .ref od), (3, .ref o), (2, .ref (am 0)), (1, .ref (ad 0)), (0, .ref b)] [] := by
  have g := gl.g
  have hkk : k ≤ room_1.cells := by omega
  have hnn : n ≤ room_1.slots := by omega
  obtain ⟨r, σm1, hm, hag⟩ := hag
  rcases hag with ⟨σk1, hf, h0, hR⟩ | ⟨σk1, hf, h0, hR⟩
  · refine j_aload_n (pc := 884) g 4 dL_law_884 rfl ?_
    refine j_aload_n (pc := 885) g 5 dL_law_885 rfl ?_
    refine j_iload (pc := 886) g 0 dL_law_886 rfl ?_
    refine j_iconst (v := 1) (pc := 888) g dL_law_888 (by decide) ?_
    refine j_iadd (pc := 889) g dL_law_889 ?_
    refine j_sld (pc := 890) gl h1 dL_law_890 ?_
    refine j_aload_n (pc := 891) g 2 dL_law_891 rfl ?_
    refine j_callH (pc := 892) (na := 3) (As := [.ref (ad 0), .int (xs (i + 1).toNatClampNeg), .ref o]) (rest := []) (r := 0) (w' := ((o, .inl (t 4, 1, .inr (.inl (vp_updL fo (0 : Int32).toNatClampNeg r.toInt64)))) :: (od, .inl (t 5, 1, .inr (.inr (.inr (.inl fd))))) :: (mC am t σm ++ kW aa ad t σk1 []))) g (hL_rank_ok (rs := (od, .inl (t 5, 1, .inr (.inr (.inr (.inl fd))))) :: mC am t σm) hst hf) q_t_L_rank q_w_L_rank q_l_L_200 q_n_L (by decide) (by decide +kernel) rfl ⟨Nat.le_of_ble_eq_true rfl, Nat.le_of_ble_eq_true rfl⟩ ⟨by omega, by omega⟩ (Nat.le_of_ble_eq_true rfl) (lw_pm_h aa ad am t σk σm _ _) (lw_pm_h aa ad am t σk1 σm _ _).symm dL_law_892 ?_ rfl
    have hkk : k + 0 ≤ room_1.cells := by omega
    have hnn : n + 0 ≤ room_1.slots := by omega
    refine j_istore (L' := [(6, .int 0), (5, .int i), (4, .ref od), (3, .ref o), (2, .ref (am 0)), (1, .ref (ad 0)), (0, .ref b)]) (pc := 895) g dL_law_895 (Nat.le_of_ble_eq_true rfl) rfl ?_
    refine j_aload_n (pc := 897) g 4 dL_law_897 rfl ?_
    refine j_aload_n (pc := 898) g 6 dL_law_898 rfl ?_
    refine j_iload (pc := 899) g 1 dL_law_899 rfl ?_
    refine j_iconst (v := 1) (pc := 901) g dL_law_901 (by decide) ?_
    refine j_iadd (pc := 902) g dL_law_902 ?_
    refine j_sld (pc := 903) gl h1 dL_law_903 ?_
    refine j_callVi (pc := 904) (na := 1) (As := [.int (xs (i + 1).toNatClampNeg)]) (rest := []) (q0 := 2) (ci := 10) (w' := ((o, .inl (t 4, 1, .inr (.inl (vp_updL fo (0 : Int32).toNatClampNeg r.toInt64)))) :: (od, .inl (t 5, 1, .inr (.inr (.inr (.inl fd))))) :: (mC am t σm1 ++ kW aa ad t σk1 []))) g (cX9_rank_ (rs := (o, .inl (t 4, 1, .inr (.inl (vp_updL fo (0 : Int32).toNatClampNeg r.toInt64)))) :: (od, .inl (t 5, 1, .inr (.inr (.inr (.inl fd))))) :: kW aa ad t σk1 []) hm) q_i_X9_rank q_s_X9_rank rfl rfl rfl q_c_X9_rank q_l_L_202 q_n_X9 (by decide +kernel) rfl ⟨Nat.le_of_ble_eq_true rfl, Nat.le_of_ble_eq_true rfl⟩ ⟨hkk, hnn⟩ (Nat.le_of_ble_eq_true rfl) (lw_pm_m aa ad am t σk1 σm _ _) (lw_pm_m aa ad am t σk1 σm1 _ _).symm dL_law_904 ?_ rfl
    refine j_istore (L' := [(7, .int r), (6, .int 0), (5, .int i), (4, .ref od), (3, .ref o), (2, .ref (am 0)), (1, .ref (ad 0)), (0, .ref b)]) (pc := 907) g dL_law_907 (Nat.le_of_ble_eq_true rfl) rfl ?_
    refine j_aload_n (pc := 909) g 5 dL_law_909 rfl ?_
    refine j_callVi (pc := 910) (na := 0) (As := []) (rest := []) (q0 := 2) (ci := 10) (w' := ((o, .inl (t 4, 1, .inr (.inl (vp_updL fo (0 : Int32).toNatClampNeg r.toInt64)))) :: (od, .inl (t 5, 1, .inr (.inr (.inr (.inl fd))))) :: (mC am t σm1 ++ kW aa ad t σk1 []))) g (cX9_thrown_ (rs := (o, .inl (t 4, 1, .inr (.inl (vp_updL fo (0 : Int32).toNatClampNeg r.toInt64)))) :: (od, .inl (t 5, 1, .inr (.inr (.inr (.inl fd))))) :: kW aa ad t σk1 []) rfl) q_i_X9_thrown q_s_X9_thrown rfl rfl rfl q_c_X9_thrown q_l_L_155 q_n_X9 (by decide +kernel) rfl ⟨Nat.le_of_ble_eq_true rfl, Nat.le_of_ble_eq_true rfl⟩ ⟨hkk, hnn⟩ (Nat.le_of_ble_eq_true rfl) (lw_pm_m aa ad am t σk1 σm1 _ _) (lw_pm_m aa ad am t σk1 σm1 _ _).symm dL_law_910 ?_ rfl
    refine j_iload (pc := 913) g 1 dL_law_913 rfl ?_
    refine j_icmp_eq (tgt := 920) (pc := 915) g dL_law_915 (by decide) (fun _ => ?_) (fun h9 => absurd h0 h9)
    refine j_iload (pc := 920) g 1 dL_law_920 rfl ?_
    refine j_if_ne (tgt := 937) (pc := 922) g dL_law_922 (by decide) (fun h9 => absurd rfl h9) (fun _ => ?_)
    refine j_aload_n (pc := 925) g 4 dL_law_925 rfl ?_
    refine j_iconst (v := 0) (pc := 926) g dL_law_926 (by decide) ?_
    refine j_lald (pc := 927) g 0 rfl (show gx_in (0 : Int32) 1 by decide) dL_law_927 ?_
    refine j_iload (pc := 928) g 0 dL_law_928 rfl ?_
    refine j_i2l (pc := 930) g dL_law_930 ?_
    refine j_lcmp (pc := 931) g dL_law_931 ?_
    refine j_if_eq (tgt := 937) (pc := 932) g dL_law_932 (by decide) (fun _ => ?_) (fun h9 => absurd (lw_cmp0 _) h9)
    refine j_goto (tgt := 2781) (pc := 937) g dL_law_937 (by decide) ?_
    refine j_sub (pc := 2781) g [2, 3, 4, 5, 6, 7] rfl ?_
    exact j_widen g (by omega) (by omega) (next σk1 σm1 (vp_updL fo (0 : Int32).toNatClampNeg r.toInt64) fd hR)
  · refine j_aload_n (pc := 884) g 4 dL_law_884 rfl ?_
    refine j_aload_n (pc := 885) g 5 dL_law_885 rfl ?_
    refine j_iload (pc := 886) g 0 dL_law_886 rfl ?_
    refine j_iconst (v := 1) (pc := 888) g dL_law_888 (by decide) ?_
    refine j_iadd (pc := 889) g dL_law_889 ?_
    refine j_sld (pc := 890) gl h1 dL_law_890 ?_
    refine j_aload_n (pc := 891) g 2 dL_law_891 rfl ?_
    refine j_callH (pc := 892) (na := 3) (As := [.ref (ad 0), .int (xs (i + 1).toNatClampNeg), .ref o]) (rest := []) (r := 1) (w' := ((o, .inl (t 4, 1, .inr (.inl fo))) :: (od, .inl (t 5, 1, .inr (.inr (.inr (.inl fd))))) :: (mC am t σm ++ kW aa ad t σk1 []))) g (hL_rank_x1 (rs := (od, .inl (t 5, 1, .inr (.inr (.inr (.inl fd))))) :: mC am t σm) hst hf) q_t_L_rank q_w_L_rank q_l_L_200 q_n_L (by decide) (by decide +kernel) rfl ⟨Nat.le_of_ble_eq_true rfl, Nat.le_of_ble_eq_true rfl⟩ ⟨by omega, by omega⟩ (Nat.le_of_ble_eq_true rfl) (lw_pm_h aa ad am t σk σm _ _) (lw_pm_h aa ad am t σk1 σm _ _).symm dL_law_892 ?_ rfl
    have hkk : k + 1 ≤ room_1.cells := by omega
    have hnn : n + 6 ≤ room_1.slots := by omega
    refine j_istore (L' := [(6, .int 1), (5, .int i), (4, .ref od), (3, .ref o), (2, .ref (am 0)), (1, .ref (ad 0)), (0, .ref b)]) (pc := 895) g dL_law_895 (Nat.le_of_ble_eq_true rfl) rfl ?_
    refine j_aload_n (pc := 897) g 4 dL_law_897 rfl ?_
    refine j_aload_n (pc := 898) g 6 dL_law_898 rfl ?_
    refine j_iload (pc := 899) g 1 dL_law_899 rfl ?_
    refine j_iconst (v := 1) (pc := 901) g dL_law_901 (by decide) ?_
    refine j_iadd (pc := 902) g dL_law_902 ?_
    refine j_sld (pc := 903) gl h1 dL_law_903 ?_
    refine j_callVi (pc := 904) (na := 1) (As := [.int (xs (i + 1).toNatClampNeg)]) (rest := []) (q0 := 2) (ci := 10) (w' := ((o, .inl (t 4, 1, .inr (.inl fo))) :: (od, .inl (t 5, 1, .inr (.inr (.inr (.inl fd))))) :: (mC am t σm1 ++ kW aa ad t σk1 []))) g (cX9_rank_ (rs := (o, .inl (t 4, 1, .inr (.inl fo))) :: (od, .inl (t 5, 1, .inr (.inr (.inr (.inl fd))))) :: kW aa ad t σk1 []) hm) q_i_X9_rank q_s_X9_rank rfl rfl rfl q_c_X9_rank q_l_L_202 q_n_X9 (by decide +kernel) rfl ⟨Nat.le_of_ble_eq_true rfl, Nat.le_of_ble_eq_true rfl⟩ ⟨hkk, hnn⟩ (Nat.le_of_ble_eq_true rfl) (lw_pm_m aa ad am t σk1 σm _ _) (lw_pm_m aa ad am t σk1 σm1 _ _).symm dL_law_904 ?_ rfl
    refine j_istore (L' := [(7, .int r), (6, .int 1), (5, .int i), (4, .ref od), (3, .ref o), (2, .ref (am 0)), (1, .ref (ad 0)), (0, .ref b)]) (pc := 907) g dL_law_907 (Nat.le_of_ble_eq_true rfl) rfl ?_
    refine j_aload_n (pc := 909) g 5 dL_law_909 rfl ?_
    refine j_callVi (pc := 910) (na := 0) (As := []) (rest := []) (q0 := 2) (ci := 10) (w' := ((o, .inl (t 4, 1, .inr (.inl fo))) :: (od, .inl (t 5, 1, .inr (.inr (.inr (.inl fd))))) :: (mC am t σm1 ++ kW aa ad t σk1 []))) g (cX9_thrown_ (rs := (o, .inl (t 4, 1, .inr (.inl fo))) :: (od, .inl (t 5, 1, .inr (.inr (.inr (.inl fd))))) :: kW aa ad t σk1 []) rfl) q_i_X9_thrown q_s_X9_thrown rfl rfl rfl q_c_X9_thrown q_l_L_155 q_n_X9 (by decide +kernel) rfl ⟨Nat.le_of_ble_eq_true rfl, Nat.le_of_ble_eq_true rfl⟩ ⟨hkk, hnn⟩ (Nat.le_of_ble_eq_true rfl) (lw_pm_m aa ad am t σk1 σm1 _ _) (lw_pm_m aa ad am t σk1 σm1 _ _).symm dL_law_910 ?_ rfl
    refine j_iload (pc := 913) g 1 dL_law_913 rfl ?_
    refine j_icmp_eq (tgt := 920) (pc := 915) g dL_law_915 (by decide) (fun _ => ?_) (fun h9 => absurd h0 h9)
    refine j_iload (pc := 920) g 1 dL_law_920 rfl ?_
    refine j_if_ne (tgt := 937) (pc := 922) g dL_law_922 (by decide) (fun _ => ?_) (fun h9 => absurd h9 (by decide))
    refine j_goto (tgt := 2781) (pc := 937) g dL_law_937 (by decide) ?_
    refine j_sub (pc := 2781) g [2, 3, 4, 5, 6, 7] rfl ?_
    exact j_widen g (by omega) (by omega) (next σk1 σm1 fo fd hR)
set_option maxRecDepth 100000 in
set_option maxHeartbeats 4000000 in
theorem lw_c13 {D : va_G} {t : Nat → ClassId} {aa : gx_AA} {l : Launch} {J : gx_J} {b Ln : Nat} {xs : Nat → Int32} (gl : gx_GL D t (gx_E0 aa) l room_1 cL_law RL 10 J b Ln xs) (hst : l.stackTraces = false) {k n : Nat} (hk : k + 1 ≤ room_1.cells) (hn : n + 6 ≤ room_1.slots) {i : Int32} (h1 : vp_in (i + 1) Ln) (h2 : vp_in (i + 2) Ln) (h3 : vp_in (i + 3) Ln) {ad am : Nat → Nat} {o od : Nat} {σk : CS} {σm : OS} {fo : Nat → Int64} {fd : Nat → UInt64} {R : CS → OS → Prop} (hag : Ag_loyalty R σk σm (xs (i + 1).toNatClampNeg)) (next : ∀ (σk2 : CS) (σm2 : OS) (fo2 : Nat → Int64) (fd2 : Nat → UInt64), R σk2 σm2 → J (k + 1) (n + 6) ((o, .inl (t 4, 1, .inr (.inl fo2))) :: (od, .inl (t 5, 1, .inr (.inr (.inr (.inl fd2))))) :: (mC am t σm2 ++ kW aa ad t σk2 [])) 2781 [(5, .int i), (4, .ref od), (3, .ref o), (2, .ref (am 0)), (1, .ref (ad 0)), (0, .ref b)] []) : J k n ((o, .inl (t 4, 1, .inr (.inl fo))) :: (od, .inl (t 5, 1, .inr (.inr (.inr (.inl fd))))) :: (mC am t σm ++ kW aa ad t σk [])) 940 [(5, .int i), (4, .ref od), (3, .ref o), (2, .ref (am 0)), (1, .ref (ad 0)), (0, .ref b)] [] := by
  have g := gl.g
  have hkk : k ≤ room_1.cells := by omega
  have hnn : n ≤ room_1.slots := by omega
  obtain ⟨r, σm1, hm, hag⟩ := hag
  rcases hag with ⟨σk1, hf, h0, hR⟩ | ⟨σk1, hf, h0, hR⟩
  · refine j_aload_n (pc := 940) g 4 dL_law_940 rfl ?_
    refine j_aload_n (pc := 941) g 5 dL_law_941 rfl ?_
    refine j_iload (pc := 942) g 0 dL_law_942 rfl ?_
    refine j_iconst (v := 1) (pc := 944) g dL_law_944 (by decide) ?_
    refine j_iadd (pc := 945) g dL_law_945 ?_
    refine j_sld (pc := 946) gl h1 dL_law_946 ?_
    refine j_aload_n (pc := 947) g 2 dL_law_947 rfl ?_
    refine j_callH (pc := 948) (na := 3) (As := [.ref (ad 0), .int (xs (i + 1).toNatClampNeg), .ref o]) (rest := []) (r := 0) (w' := ((o, .inl (t 4, 1, .inr (.inl (vp_updL fo (0 : Int32).toNatClampNeg r.toInt64)))) :: (od, .inl (t 5, 1, .inr (.inr (.inr (.inl fd))))) :: (mC am t σm ++ kW aa ad t σk1 []))) g (hL_loyalty_ok (rs := (od, .inl (t 5, 1, .inr (.inr (.inr (.inl fd))))) :: mC am t σm) hst hf) q_t_L_loyalty q_w_L_loyalty q_l_L_203 q_n_L (by decide) (by decide +kernel) rfl ⟨Nat.le_of_ble_eq_true rfl, Nat.le_of_ble_eq_true rfl⟩ ⟨by omega, by omega⟩ (Nat.le_of_ble_eq_true rfl) (lw_pm_h aa ad am t σk σm _ _) (lw_pm_h aa ad am t σk1 σm _ _).symm dL_law_948 ?_ rfl
    have hkk : k + 0 ≤ room_1.cells := by omega
    have hnn : n + 0 ≤ room_1.slots := by omega
    refine j_istore (L' := [(6, .int 0), (5, .int i), (4, .ref od), (3, .ref o), (2, .ref (am 0)), (1, .ref (ad 0)), (0, .ref b)]) (pc := 951) g dL_law_951 (Nat.le_of_ble_eq_true rfl) rfl ?_
    refine j_aload_n (pc := 953) g 4 dL_law_953 rfl ?_
    refine j_aload_n (pc := 954) g 6 dL_law_954 rfl ?_
    refine j_iload (pc := 955) g 1 dL_law_955 rfl ?_
    refine j_iconst (v := 1) (pc := 957) g dL_law_957 (by decide) ?_
    refine j_iadd (pc := 958) g dL_law_958 ?_
    refine j_sld (pc := 959) gl h1 dL_law_959 ?_
    refine j_callVi (pc := 960) (na := 1) (As := [.int (xs (i + 1).toNatClampNeg)]) (rest := []) (q0 := 2) (ci := 10) (w' := ((o, .inl (t 4, 1, .inr (.inl (vp_updL fo (0 : Int32).toNatClampNeg r.toInt64)))) :: (od, .inl (t 5, 1, .inr (.inr (.inr (.inl fd))))) :: (mC am t σm1 ++ kW aa ad t σk1 []))) g (cX9_loyalty_ (rs := (o, .inl (t 4, 1, .inr (.inl (vp_updL fo (0 : Int32).toNatClampNeg r.toInt64)))) :: (od, .inl (t 5, 1, .inr (.inr (.inr (.inl fd))))) :: kW aa ad t σk1 []) hm) q_i_X9_loyalty q_s_X9_loyalty rfl rfl rfl q_c_X9_loyalty q_l_L_205 q_n_X9 (by decide +kernel) rfl ⟨Nat.le_of_ble_eq_true rfl, Nat.le_of_ble_eq_true rfl⟩ ⟨hkk, hnn⟩ (Nat.le_of_ble_eq_true rfl) (lw_pm_m aa ad am t σk1 σm _ _) (lw_pm_m aa ad am t σk1 σm1 _ _).symm dL_law_960 ?_ rfl
    refine j_istore (L' := [(7, .int r), (6, .int 0), (5, .int i), (4, .ref od), (3, .ref o), (2, .ref (am 0)), (1, .ref (ad 0)), (0, .ref b)]) (pc := 963) g dL_law_963 (Nat.le_of_ble_eq_true rfl) rfl ?_
    refine j_aload_n (pc := 965) g 5 dL_law_965 rfl ?_
    refine j_callVi (pc := 966) (na := 0) (As := []) (rest := []) (q0 := 2) (ci := 10) (w' := ((o, .inl (t 4, 1, .inr (.inl (vp_updL fo (0 : Int32).toNatClampNeg r.toInt64)))) :: (od, .inl (t 5, 1, .inr (.inr (.inr (.inl fd))))) :: (mC am t σm1 ++ kW aa ad t σk1 []))) g (cX9_thrown_ (rs := (o, .inl (t 4, 1, .inr (.inl (vp_updL fo (0 : Int32).toNatClampNeg r.toInt64)))) :: (od, .inl (t 5, 1, .inr (.inr (.inr (.inl fd))))) :: kW aa ad t σk1 []) rfl) q_i_X9_thrown q_s_X9_thrown rfl rfl rfl q_c_X9_thrown q_l_L_155 q_n_X9 (by decide +kernel) rfl ⟨Nat.le_of_ble_eq_true rfl, Nat.le_of_ble_eq_true rfl⟩ ⟨hkk, hnn⟩ (Nat.le_of_ble_eq_true rfl) (lw_pm_m aa ad am t σk1 σm1 _ _) (lw_pm_m aa ad am t σk1 σm1 _ _).symm dL_law_966 ?_ rfl
    refine j_iload (pc := 969) g 1 dL_law_969 rfl ?_
    refine j_icmp_eq (tgt := 976) (pc := 971) g dL_law_971 (by decide) (fun _ => ?_) (fun h9 => absurd h0 h9)
    refine j_iload (pc := 976) g 1 dL_law_976 rfl ?_
    refine j_if_ne (tgt := 993) (pc := 978) g dL_law_978 (by decide) (fun h9 => absurd rfl h9) (fun _ => ?_)
    refine j_aload_n (pc := 981) g 4 dL_law_981 rfl ?_
    refine j_iconst (v := 0) (pc := 982) g dL_law_982 (by decide) ?_
    refine j_lald (pc := 983) g 0 rfl (show gx_in (0 : Int32) 1 by decide) dL_law_983 ?_
    refine j_iload (pc := 984) g 0 dL_law_984 rfl ?_
    refine j_i2l (pc := 986) g dL_law_986 ?_
    refine j_lcmp (pc := 987) g dL_law_987 ?_
    refine j_if_eq (tgt := 993) (pc := 988) g dL_law_988 (by decide) (fun _ => ?_) (fun h9 => absurd (lw_cmp0 _) h9)
    refine j_goto (tgt := 2781) (pc := 993) g dL_law_993 (by decide) ?_
    refine j_sub (pc := 2781) g [2, 3, 4, 5, 6, 7] rfl ?_
    exact j_widen g (by omega) (by omega) (next σk1 σm1 (vp_updL fo (0 : Int32).toNatClampNeg r.toInt64) fd hR)
  · refine j_aload_n (pc := 940) g 4 dL_law_940 rfl ?_
    refine j_aload_n (pc := 941) g 5 dL_law_941 rfl ?_
    refine j_iload (pc := 942) g 0 dL_law_942 rfl ?_
    refine j_iconst (v := 1) (pc := 944) g dL_law_944 (by decide) ?_
    refine j_iadd (pc := 945) g dL_law_945 ?_
    refine j_sld (pc := 946) gl h1 dL_law_946 ?_
    refine j_aload_n (pc := 947) g 2 dL_law_947 rfl ?_
    refine j_callH (pc := 948) (na := 3) (As := [.ref (ad 0), .int (xs (i + 1).toNatClampNeg), .ref o]) (rest := []) (r := 1) (w' := ((o, .inl (t 4, 1, .inr (.inl fo))) :: (od, .inl (t 5, 1, .inr (.inr (.inr (.inl fd))))) :: (mC am t σm ++ kW aa ad t σk1 []))) g (hL_loyalty_x1 (rs := (od, .inl (t 5, 1, .inr (.inr (.inr (.inl fd))))) :: mC am t σm) hst hf) q_t_L_loyalty q_w_L_loyalty q_l_L_203 q_n_L (by decide) (by decide +kernel) rfl ⟨Nat.le_of_ble_eq_true rfl, Nat.le_of_ble_eq_true rfl⟩ ⟨by omega, by omega⟩ (Nat.le_of_ble_eq_true rfl) (lw_pm_h aa ad am t σk σm _ _) (lw_pm_h aa ad am t σk1 σm _ _).symm dL_law_948 ?_ rfl
    have hkk : k + 1 ≤ room_1.cells := by omega
    have hnn : n + 6 ≤ room_1.slots := by omega
    refine j_istore (L' := [(6, .int 1), (5, .int i), (4, .ref od), (3, .ref o), (2, .ref (am 0)), (1, .ref (ad 0)), (0, .ref b)]) (pc := 951) g dL_law_951 (Nat.le_of_ble_eq_true rfl) rfl ?_
    refine j_aload_n (pc := 953) g 4 dL_law_953 rfl ?_
    refine j_aload_n (pc := 954) g 6 dL_law_954 rfl ?_
    refine j_iload (pc := 955) g 1 dL_law_955 rfl ?_
    refine j_iconst (v := 1) (pc := 957) g dL_law_957 (by decide) ?_
    refine j_iadd (pc := 958) g dL_law_958 ?_
    refine j_sld (pc := 959) gl h1 dL_law_959 ?_
    refine j_callVi (pc := 960) (na := 1) (As := [.int (xs (i + 1).toNatClampNeg)]) (rest := []) (q0 := 2) (ci := 10) (w' := ((o, .inl (t 4, 1, .inr (.inl fo))) :: (od, .inl (t 5, 1, .inr (.inr (.inr (.inl fd))))) :: (mC am t σm1 ++ kW aa ad t σk1 []))) g (cX9_loyalty_ (rs := (o, .inl (t 4, 1, .inr (.inl fo))) :: (od, .inl (t 5, 1, .inr (.inr (.inr (.inl fd))))) :: kW aa ad t σk1 []) hm) q_i_X9_loyalty q_s_X9_loyalty rfl rfl rfl q_c_X9_loyalty q_l_L_205 q_n_X9 (by decide +kernel) rfl ⟨Nat.le_of_ble_eq_true rfl, Nat.le_of_ble_eq_true rfl⟩ ⟨hkk, hnn⟩ (Nat.le_of_ble_eq_true rfl) (lw_pm_m aa ad am t σk1 σm _ _) (lw_pm_m aa ad am t σk1 σm1 _ _).symm dL_law_960 ?_ rfl
    refine j_istore (L' := [(7, .int r), (6, .int 1), (5, .int i), (4, .ref od), (3, .ref o), (2, .ref (am 0)), (1, .ref (ad 0)), (0, .ref b)]) (pc := 963) g dL_law_963 (Nat.le_of_ble_eq_true rfl) rfl ?_
    refine j_aload_n (pc := 965) g 5 dL_law_965 rfl ?_
    refine j_callVi (pc := 966) (na := 0) (As := []) (rest := []) (q0 := 2) (ci := 10) (w' := ((o, .inl (t 4, 1, .inr (.inl fo))) :: (od, .inl (t 5, 1, .inr (.inr (.inr (.inl fd))))) :: (mC am t σm1 ++ kW aa ad t σk1 []))) g (cX9_thrown_ (rs := (o, .inl (t 4, 1, .inr (.inl fo))) :: (od, .inl (t 5, 1, .inr (.inr (.inr (.inl fd))))) :: kW aa ad t σk1 []) rfl) q_i_X9_thrown q_s_X9_thrown rfl rfl rfl q_c_X9_thrown q_l_L_155 q_n_X9 (by decide +kernel) rfl ⟨Nat.le_of_ble_eq_true rfl, Nat.le_of_ble_eq_true rfl⟩ ⟨hkk, hnn⟩ (Nat.le_of_ble_eq_true rfl) (lw_pm_m aa ad am t σk1 σm1 _ _) (lw_pm_m aa ad am t σk1 σm1 _ _).symm dL_law_966 ?_ rfl
    refine j_iload (pc := 969) g 1 dL_law_969 rfl ?_
    refine j_icmp_eq (tgt := 976) (pc := 971) g dL_law_971 (by decide) (fun _ => ?_) (fun h9 => absurd h0 h9)
    refine j_iload (pc := 976) g 1 dL_law_976 rfl ?_
    refine j_if_ne (tgt := 993) (pc := 978) g dL_law_978 (by decide) (fun _ => ?_) (fun h9 => absurd h9 (by decide))
    refine j_goto (tgt := 2781) (pc := 993) g dL_law_993 (by decide) ?_
    refine j_sub (pc := 2781) g [2, 3, 4, 5, 6, 7] rfl ?_
    exact j_widen g (by omega) (by omega) (next σk1 σm1 fo fd hR)
set_option maxRecDepth 100000 in
set_option maxHeartbeats 4000000 in
theorem lw_c14 {D : va_G} {t : Nat → ClassId} {aa : gx_AA} {l : Launch} {J : gx_J} {b Ln : Nat} {xs : Nat → Int32} (gl : gx_GL D t (gx_E0 aa) l room_1 cL_law RL 10 J b Ln xs) (hst : l.stackTraces = false) {k n : Nat} (hk : k + 1 ≤ room_1.cells) (hn : n + 6 ≤ room_1.slots) {i : Int32} (h1 : vp_in (i + 1) Ln) (h2 : vp_in (i + 2) Ln) (h3 : vp_in (i + 3) Ln) {ad am : Nat → Nat} {o od : Nat} {σk : CS} {σm : OS} {fo : Nat → Int64} {fd : Nat → UInt64} {R : CS → OS → Prop} (hag : Ag_refusals R σk σm (xs (i + 1).toNatClampNeg)) (next : ∀ (σk2 : CS) (σm2 : OS) (fo2 : Nat → Int64) (fd2 : Nat → UInt64), R σk2 σm2 → J (k + 1) (n + 6) ((o, .inl (t 4, 1, .inr (.inl fo2))) :: (od, .inl (t 5, 1, .inr (.inr (.inr (.inl fd2))))) :: (mC am t σm2 ++ kW aa ad t σk2 [])) 2781 [(5, .int i), (4, .ref od), (3, .ref o), (2, .ref (am 0)), (1, .ref (ad 0)), (0, .ref b)] []) : J k n ((o, .inl (t 4, 1, .inr (.inl fo))) :: (od, .inl (t 5, 1, .inr (.inr (.inr (.inl fd))))) :: (mC am t σm ++ kW aa ad t σk [])) 996 [(5, .int i), (4, .ref od), (3, .ref o), (2, .ref (am 0)), (1, .ref (ad 0)), (0, .ref b)] [] := by
  have g := gl.g
  have hkk : k ≤ room_1.cells := by omega
  have hnn : n ≤ room_1.slots := by omega
  obtain ⟨r, σm1, hm, hag⟩ := hag
  rcases hag with ⟨σk1, hf, h0, hR⟩ | ⟨σk1, hf, h0, hR⟩
  · refine j_aload_n (pc := 996) g 4 dL_law_996 rfl ?_
    refine j_aload_n (pc := 997) g 5 dL_law_997 rfl ?_
    refine j_iload (pc := 998) g 0 dL_law_998 rfl ?_
    refine j_iconst (v := 1) (pc := 1000) g dL_law_1000 (by decide) ?_
    refine j_iadd (pc := 1001) g dL_law_1001 ?_
    refine j_sld (pc := 1002) gl h1 dL_law_1002 ?_
    refine j_aload_n (pc := 1003) g 2 dL_law_1003 rfl ?_
    refine j_callH (pc := 1004) (na := 3) (As := [.ref (ad 0), .int (xs (i + 1).toNatClampNeg), .ref o]) (rest := []) (r := 0) (w' := ((o, .inl (t 4, 1, .inr (.inl (vp_updL fo (0 : Int32).toNatClampNeg r.toInt64)))) :: (od, .inl (t 5, 1, .inr (.inr (.inr (.inl fd))))) :: (mC am t σm ++ kW aa ad t σk1 []))) g (hL_refusals_ok (rs := (od, .inl (t 5, 1, .inr (.inr (.inr (.inl fd))))) :: mC am t σm) hst hf) q_t_L_refusals q_w_L_refusals q_l_L_206 q_n_L (by decide) (by decide +kernel) rfl ⟨Nat.le_of_ble_eq_true rfl, Nat.le_of_ble_eq_true rfl⟩ ⟨by omega, by omega⟩ (Nat.le_of_ble_eq_true rfl) (lw_pm_h aa ad am t σk σm _ _) (lw_pm_h aa ad am t σk1 σm _ _).symm dL_law_1004 ?_ rfl
    have hkk : k + 0 ≤ room_1.cells := by omega
    have hnn : n + 0 ≤ room_1.slots := by omega
    refine j_istore (L' := [(6, .int 0), (5, .int i), (4, .ref od), (3, .ref o), (2, .ref (am 0)), (1, .ref (ad 0)), (0, .ref b)]) (pc := 1007) g dL_law_1007 (Nat.le_of_ble_eq_true rfl) rfl ?_
    refine j_aload_n (pc := 1009) g 4 dL_law_1009 rfl ?_
    refine j_aload_n (pc := 1010) g 6 dL_law_1010 rfl ?_
    refine j_iload (pc := 1011) g 1 dL_law_1011 rfl ?_
    refine j_iconst (v := 1) (pc := 1013) g dL_law_1013 (by decide) ?_
    refine j_iadd (pc := 1014) g dL_law_1014 ?_
    refine j_sld (pc := 1015) gl h1 dL_law_1015 ?_
    refine j_callVi (pc := 1016) (na := 1) (As := [.int (xs (i + 1).toNatClampNeg)]) (rest := []) (q0 := 2) (ci := 10) (w' := ((o, .inl (t 4, 1, .inr (.inl (vp_updL fo (0 : Int32).toNatClampNeg r.toInt64)))) :: (od, .inl (t 5, 1, .inr (.inr (.inr (.inl fd))))) :: (mC am t σm1 ++ kW aa ad t σk1 []))) g (cX9_refusals_ (rs := (o, .inl (t 4, 1, .inr (.inl (vp_updL fo (0 : Int32).toNatClampNeg r.toInt64)))) :: (od, .inl (t 5, 1, .inr (.inr (.inr (.inl fd))))) :: kW aa ad t σk1 []) hm) q_i_X9_refusals q_s_X9_refusals rfl rfl rfl q_c_X9_refusals q_l_L_208 q_n_X9 (by decide +kernel) rfl ⟨Nat.le_of_ble_eq_true rfl, Nat.le_of_ble_eq_true rfl⟩ ⟨hkk, hnn⟩ (Nat.le_of_ble_eq_true rfl) (lw_pm_m aa ad am t σk1 σm _ _) (lw_pm_m aa ad am t σk1 σm1 _ _).symm dL_law_1016 ?_ rfl
    refine j_istore (L' := [(7, .int r), (6, .int 0), (5, .int i), (4, .ref od), (3, .ref o), (2, .ref (am 0)), (1, .ref (ad 0)), (0, .ref b)]) (pc := 1019) g dL_law_1019 (Nat.le_of_ble_eq_true rfl) rfl ?_
    refine j_aload_n (pc := 1021) g 5 dL_law_1021 rfl ?_
    refine j_callVi (pc := 1022) (na := 0) (As := []) (rest := []) (q0 := 2) (ci := 10) (w' := ((o, .inl (t 4, 1, .inr (.inl (vp_updL fo (0 : Int32).toNatClampNeg r.toInt64)))) :: (od, .inl (t 5, 1, .inr (.inr (.inr (.inl fd))))) :: (mC am t σm1 ++ kW aa ad t σk1 []))) g (cX9_thrown_ (rs := (o, .inl (t 4, 1, .inr (.inl (vp_updL fo (0 : Int32).toNatClampNeg r.toInt64)))) :: (od, .inl (t 5, 1, .inr (.inr (.inr (.inl fd))))) :: kW aa ad t σk1 []) rfl) q_i_X9_thrown q_s_X9_thrown rfl rfl rfl q_c_X9_thrown q_l_L_155 q_n_X9 (by decide +kernel) rfl ⟨Nat.le_of_ble_eq_true rfl, Nat.le_of_ble_eq_true rfl⟩ ⟨hkk, hnn⟩ (Nat.le_of_ble_eq_true rfl) (lw_pm_m aa ad am t σk1 σm1 _ _) (lw_pm_m aa ad am t σk1 σm1 _ _).symm dL_law_1022 ?_ rfl
    refine j_iload (pc := 1025) g 1 dL_law_1025 rfl ?_
    refine j_icmp_eq (tgt := 1032) (pc := 1027) g dL_law_1027 (by decide) (fun _ => ?_) (fun h9 => absurd h0 h9)
    refine j_iload (pc := 1032) g 1 dL_law_1032 rfl ?_
    refine j_if_ne (tgt := 1049) (pc := 1034) g dL_law_1034 (by decide) (fun h9 => absurd rfl h9) (fun _ => ?_)
    refine j_aload_n (pc := 1037) g 4 dL_law_1037 rfl ?_
    refine j_iconst (v := 0) (pc := 1038) g dL_law_1038 (by decide) ?_
    refine j_lald (pc := 1039) g 0 rfl (show gx_in (0 : Int32) 1 by decide) dL_law_1039 ?_
    refine j_iload (pc := 1040) g 0 dL_law_1040 rfl ?_
    refine j_i2l (pc := 1042) g dL_law_1042 ?_
    refine j_lcmp (pc := 1043) g dL_law_1043 ?_
    refine j_if_eq (tgt := 1049) (pc := 1044) g dL_law_1044 (by decide) (fun _ => ?_) (fun h9 => absurd (lw_cmp0 _) h9)
    refine j_goto (tgt := 2781) (pc := 1049) g dL_law_1049 (by decide) ?_
    refine j_sub (pc := 2781) g [2, 3, 4, 5, 6, 7] rfl ?_
    exact j_widen g (by omega) (by omega) (next σk1 σm1 (vp_updL fo (0 : Int32).toNatClampNeg r.toInt64) fd hR)
  · refine j_aload_n (pc := 996) g 4 dL_law_996 rfl ?_
    refine j_aload_n (pc := 997) g 5 dL_law_997 rfl ?_
    refine j_iload (pc := 998) g 0 dL_law_998 rfl ?_
    refine j_iconst (v := 1) (pc := 1000) g dL_law_1000 (by decide) ?_
    refine j_iadd (pc := 1001) g dL_law_1001 ?_
    refine j_sld (pc := 1002) gl h1 dL_law_1002 ?_
    refine j_aload_n (pc := 1003) g 2 dL_law_1003 rfl ?_
    refine j_callH (pc := 1004) (na := 3) (As := [.ref (ad 0), .int (xs (i + 1).toNatClampNeg), .ref o]) (rest := []) (r := 1) (w' := ((o, .inl (t 4, 1, .inr (.inl fo))) :: (od, .inl (t 5, 1, .inr (.inr (.inr (.inl fd))))) :: (mC am t σm ++ kW aa ad t σk1 []))) g (hL_refusals_x1 (rs := (od, .inl (t 5, 1, .inr (.inr (.inr (.inl fd))))) :: mC am t σm) hst hf) q_t_L_refusals q_w_L_refusals q_l_L_206 q_n_L (by decide) (by decide +kernel) rfl ⟨Nat.le_of_ble_eq_true rfl, Nat.le_of_ble_eq_true rfl⟩ ⟨by omega, by omega⟩ (Nat.le_of_ble_eq_true rfl) (lw_pm_h aa ad am t σk σm _ _) (lw_pm_h aa ad am t σk1 σm _ _).symm dL_law_1004 ?_ rfl
    have hkk : k + 1 ≤ room_1.cells := by omega
    have hnn : n + 6 ≤ room_1.slots := by omega
    refine j_istore (L' := [(6, .int 1), (5, .int i), (4, .ref od), (3, .ref o), (2, .ref (am 0)), (1, .ref (ad 0)), (0, .ref b)]) (pc := 1007) g dL_law_1007 (Nat.le_of_ble_eq_true rfl) rfl ?_
    refine j_aload_n (pc := 1009) g 4 dL_law_1009 rfl ?_
    refine j_aload_n (pc := 1010) g 6 dL_law_1010 rfl ?_
    refine j_iload (pc := 1011) g 1 dL_law_1011 rfl ?_
    refine j_iconst (v := 1) (pc := 1013) g dL_law_1013 (by decide) ?_
    refine j_iadd (pc := 1014) g dL_law_1014 ?_
    refine j_sld (pc := 1015) gl h1 dL_law_1015 ?_
    refine j_callVi (pc := 1016) (na := 1) (As := [.int (xs (i + 1).toNatClampNeg)]) (rest := []) (q0 := 2) (ci := 10) (w' := ((o, .inl (t 4, 1, .inr (.inl fo))) :: (od, .inl (t 5, 1, .inr (.inr (.inr (.inl fd))))) :: (mC am t σm1 ++ kW aa ad t σk1 []))) g (cX9_refusals_ (rs := (o, .inl (t 4, 1, .inr (.inl fo))) :: (od, .inl (t 5, 1, .inr (.inr (.inr (.inl fd))))) :: kW aa ad t σk1 []) hm) q_i_X9_refusals q_s_X9_refusals rfl rfl rfl q_c_X9_refusals q_l_L_208 q_n_X9 (by decide +kernel) rfl ⟨Nat.le_of_ble_eq_true rfl, Nat.le_of_ble_eq_true rfl⟩ ⟨hkk, hnn⟩ (Nat.le_of_ble_eq_true rfl) (lw_pm_m aa ad am t σk1 σm _ _) (lw_pm_m aa ad am t σk1 σm1 _ _).symm dL_law_1016 ?_ rfl
    refine j_istore (L' := [(7, .int r), (6, .int 1), (5, .int i), (4, .ref od), (3, .ref o), (2, .ref (am 0)), (1, .ref (ad 0)), (0, .ref b)]) (pc := 1019) g dL_law_1019 (Nat.le_of_ble_eq_true rfl) rfl ?_
    refine j_aload_n (pc := 1021) g 5 dL_law_1021 rfl ?_
    refine j_callVi (pc := 1022) (na := 0) (As := []) (rest := []) (q0 := 2) (ci := 10) (w' := ((o, .inl (t 4, 1, .inr (.inl fo))) :: (od, .inl (t 5, 1, .inr (.inr (.inr (.inl fd))))) :: (mC am t σm1 ++ kW aa ad t σk1 []))) g (cX9_thrown_ (rs := (o, .inl (t 4, 1, .inr (.inl fo))) :: (od, .inl (t 5, 1, .inr (.inr (.inr (.inl fd))))) :: kW aa ad t σk1 []) rfl) q_i_X9_thrown q_s_X9_thrown rfl rfl rfl q_c_X9_thrown q_l_L_155 q_n_X9 (by decide +kernel) rfl ⟨Nat.le_of_ble_eq_true rfl, Nat.le_of_ble_eq_true rfl⟩ ⟨hkk, hnn⟩ (Nat.le_of_ble_eq_true rfl) (lw_pm_m aa ad am t σk1 σm1 _ _) (lw_pm_m aa ad am t σk1 σm1 _ _).symm dL_law_1022 ?_ rfl
    refine j_iload (pc := 1025) g 1 dL_law_1025 rfl ?_
    refine j_icmp_eq (tgt := 1032) (pc := 1027) g dL_law_1027 (by decide) (fun _ => ?_) (fun h9 => absurd h0 h9)
    refine j_iload (pc := 1032) g 1 dL_law_1032 rfl ?_
    refine j_if_ne (tgt := 1049) (pc := 1034) g dL_law_1034 (by decide) (fun _ => ?_) (fun h9 => absurd h9 (by decide))
    refine j_goto (tgt := 2781) (pc := 1049) g dL_law_1049 (by decide) ?_
    refine j_sub (pc := 2781) g [2, 3, 4, 5, 6, 7] rfl ?_
    exact j_widen g (by omega) (by omega) (next σk1 σm1 fo fd hR)
set_option maxRecDepth 100000 in
set_option maxHeartbeats 4000000 in
theorem lw_c15 {D : va_G} {t : Nat → ClassId} {aa : gx_AA} {l : Launch} {J : gx_J} {b Ln : Nat} {xs : Nat → Int32} (gl : gx_GL D t (gx_E0 aa) l room_1 cL_law RL 10 J b Ln xs) (hst : l.stackTraces = false) {k n : Nat} (hk : k + 1 ≤ room_1.cells) (hn : n + 6 ≤ room_1.slots) {i : Int32} (h1 : vp_in (i + 1) Ln) (h2 : vp_in (i + 2) Ln) (h3 : vp_in (i + 3) Ln) {ad am : Nat → Nat} {o od : Nat} {σk : CS} {σm : OS} {fo : Nat → Int64} {fd : Nat → UInt64} {R : CS → OS → Prop} (hag : Ag_superior R σk σm (xs (i + 1).toNatClampNeg)) (next : ∀ (σk2 : CS) (σm2 : OS) (fo2 : Nat → Int64) (fd2 : Nat → UInt64), R σk2 σm2 → J (k + 1) (n + 6) ((o, .inl (t 4, 1, .inr (.inl fo2))) :: (od, .inl (t 5, 1, .inr (.inr (.inr (.inl fd2))))) :: (mC am t σm2 ++ kW aa ad t σk2 [])) 2781 [(5, .int i), (4, .ref od), (3, .ref o), (2, .ref (am 0)), (1, .ref (ad 0)), (0, .ref b)] []) : J k n ((o, .inl (t 4, 1, .inr (.inl fo))) :: (od, .inl (t 5, 1, .inr (.inr (.inr (.inl fd))))) :: (mC am t σm ++ kW aa ad t σk [])) 1052 [(5, .int i), (4, .ref od), (3, .ref o), (2, .ref (am 0)), (1, .ref (ad 0)), (0, .ref b)] [] := by
  have g := gl.g
  have hkk : k ≤ room_1.cells := by omega
  have hnn : n ≤ room_1.slots := by omega
  obtain ⟨r, σm1, hm, hag⟩ := hag
  rcases hag with ⟨σk1, hf, h0, hR⟩ | ⟨σk1, hf, h0, hR⟩ | ⟨σk1, hf, h0, hR⟩
  · refine j_aload_n (pc := 1052) g 4 dL_law_1052 rfl ?_
    refine j_aload_n (pc := 1053) g 5 dL_law_1053 rfl ?_
    refine j_iload (pc := 1054) g 0 dL_law_1054 rfl ?_
    refine j_iconst (v := 1) (pc := 1056) g dL_law_1056 (by decide) ?_
    refine j_iadd (pc := 1057) g dL_law_1057 ?_
    refine j_sld (pc := 1058) gl h1 dL_law_1058 ?_
    refine j_aload_n (pc := 1059) g 2 dL_law_1059 rfl ?_
    refine j_callH (pc := 1060) (na := 3) (As := [.ref (ad 0), .int (xs (i + 1).toNatClampNeg), .ref o]) (rest := []) (r := 0) (w' := ((o, .inl (t 4, 1, .inr (.inl (vp_updL fo (0 : Int32).toNatClampNeg r.toInt64)))) :: (od, .inl (t 5, 1, .inr (.inr (.inr (.inl fd))))) :: (mC am t σm ++ kW aa ad t σk1 []))) g (hL_superior_ok (rs := (od, .inl (t 5, 1, .inr (.inr (.inr (.inl fd))))) :: mC am t σm) hst hf) q_t_L_superior q_w_L_superior q_l_L_209 q_n_L (by decide) (by decide +kernel) rfl ⟨Nat.le_of_ble_eq_true rfl, Nat.le_of_ble_eq_true rfl⟩ ⟨by omega, by omega⟩ (Nat.le_of_ble_eq_true rfl) (lw_pm_h aa ad am t σk σm _ _) (lw_pm_h aa ad am t σk1 σm _ _).symm dL_law_1060 ?_ rfl
    have hkk : k + 0 ≤ room_1.cells := by omega
    have hnn : n + 0 ≤ room_1.slots := by omega
    refine j_istore (L' := [(6, .int 0), (5, .int i), (4, .ref od), (3, .ref o), (2, .ref (am 0)), (1, .ref (ad 0)), (0, .ref b)]) (pc := 1063) g dL_law_1063 (Nat.le_of_ble_eq_true rfl) rfl ?_
    refine j_aload_n (pc := 1065) g 4 dL_law_1065 rfl ?_
    refine j_aload_n (pc := 1066) g 6 dL_law_1066 rfl ?_
    refine j_iload (pc := 1067) g 1 dL_law_1067 rfl ?_
    refine j_iconst (v := 1) (pc := 1069) g dL_law_1069 (by decide) ?_
    refine j_iadd (pc := 1070) g dL_law_1070 ?_
    refine j_sld (pc := 1071) gl h1 dL_law_1071 ?_
    refine j_callVi (pc := 1072) (na := 1) (As := [.int (xs (i + 1).toNatClampNeg)]) (rest := []) (q0 := 2) (ci := 10) (w' := ((o, .inl (t 4, 1, .inr (.inl (vp_updL fo (0 : Int32).toNatClampNeg r.toInt64)))) :: (od, .inl (t 5, 1, .inr (.inr (.inr (.inl fd))))) :: (mC am t σm1 ++ kW aa ad t σk1 []))) g (cX9_superior_ (rs := (o, .inl (t 4, 1, .inr (.inl (vp_updL fo (0 : Int32).toNatClampNeg r.toInt64)))) :: (od, .inl (t 5, 1, .inr (.inr (.inr (.inl fd))))) :: kW aa ad t σk1 []) hm) q_i_X9_superior q_s_X9_superior rfl rfl rfl q_c_X9_superior q_l_L_211 q_n_X9 (by decide +kernel) rfl ⟨Nat.le_of_ble_eq_true rfl, Nat.le_of_ble_eq_true rfl⟩ ⟨hkk, hnn⟩ (Nat.le_of_ble_eq_true rfl) (lw_pm_m aa ad am t σk1 σm _ _) (lw_pm_m aa ad am t σk1 σm1 _ _).symm dL_law_1072 ?_ rfl
    refine j_istore (L' := [(7, .int r), (6, .int 0), (5, .int i), (4, .ref od), (3, .ref o), (2, .ref (am 0)), (1, .ref (ad 0)), (0, .ref b)]) (pc := 1075) g dL_law_1075 (Nat.le_of_ble_eq_true rfl) rfl ?_
    refine j_aload_n (pc := 1077) g 5 dL_law_1077 rfl ?_
    refine j_callVi (pc := 1078) (na := 0) (As := []) (rest := []) (q0 := 2) (ci := 10) (w' := ((o, .inl (t 4, 1, .inr (.inl (vp_updL fo (0 : Int32).toNatClampNeg r.toInt64)))) :: (od, .inl (t 5, 1, .inr (.inr (.inr (.inl fd))))) :: (mC am t σm1 ++ kW aa ad t σk1 []))) g (cX9_thrown_ (rs := (o, .inl (t 4, 1, .inr (.inl (vp_updL fo (0 : Int32).toNatClampNeg r.toInt64)))) :: (od, .inl (t 5, 1, .inr (.inr (.inr (.inl fd))))) :: kW aa ad t σk1 []) rfl) q_i_X9_thrown q_s_X9_thrown rfl rfl rfl q_c_X9_thrown q_l_L_155 q_n_X9 (by decide +kernel) rfl ⟨Nat.le_of_ble_eq_true rfl, Nat.le_of_ble_eq_true rfl⟩ ⟨hkk, hnn⟩ (Nat.le_of_ble_eq_true rfl) (lw_pm_m aa ad am t σk1 σm1 _ _) (lw_pm_m aa ad am t σk1 σm1 _ _).symm dL_law_1078 ?_ rfl
    refine j_iload (pc := 1081) g 1 dL_law_1081 rfl ?_
    refine j_icmp_eq (tgt := 1088) (pc := 1083) g dL_law_1083 (by decide) (fun _ => ?_) (fun h9 => absurd h0 h9)
    refine j_iload (pc := 1088) g 1 dL_law_1088 rfl ?_
    refine j_if_ne (tgt := 1105) (pc := 1090) g dL_law_1090 (by decide) (fun h9 => absurd rfl h9) (fun _ => ?_)
    refine j_aload_n (pc := 1093) g 4 dL_law_1093 rfl ?_
    refine j_iconst (v := 0) (pc := 1094) g dL_law_1094 (by decide) ?_
    refine j_lald (pc := 1095) g 0 rfl (show gx_in (0 : Int32) 1 by decide) dL_law_1095 ?_
    refine j_iload (pc := 1096) g 0 dL_law_1096 rfl ?_
    refine j_i2l (pc := 1098) g dL_law_1098 ?_
    refine j_lcmp (pc := 1099) g dL_law_1099 ?_
    refine j_if_eq (tgt := 1105) (pc := 1100) g dL_law_1100 (by decide) (fun _ => ?_) (fun h9 => absurd (lw_cmp0 _) h9)
    refine j_goto (tgt := 2781) (pc := 1105) g dL_law_1105 (by decide) ?_
    refine j_sub (pc := 2781) g [2, 3, 4, 5, 6, 7] rfl ?_
    exact j_widen g (by omega) (by omega) (next σk1 σm1 (vp_updL fo (0 : Int32).toNatClampNeg r.toInt64) fd hR)
  · refine j_aload_n (pc := 1052) g 4 dL_law_1052 rfl ?_
    refine j_aload_n (pc := 1053) g 5 dL_law_1053 rfl ?_
    refine j_iload (pc := 1054) g 0 dL_law_1054 rfl ?_
    refine j_iconst (v := 1) (pc := 1056) g dL_law_1056 (by decide) ?_
    refine j_iadd (pc := 1057) g dL_law_1057 ?_
    refine j_sld (pc := 1058) gl h1 dL_law_1058 ?_
    refine j_aload_n (pc := 1059) g 2 dL_law_1059 rfl ?_
    refine j_callH (pc := 1060) (na := 3) (As := [.ref (ad 0), .int (xs (i + 1).toNatClampNeg), .ref o]) (rest := []) (r := 1) (w' := ((o, .inl (t 4, 1, .inr (.inl fo))) :: (od, .inl (t 5, 1, .inr (.inr (.inr (.inl fd))))) :: (mC am t σm ++ kW aa ad t σk1 []))) g (hL_superior_x1 (rs := (od, .inl (t 5, 1, .inr (.inr (.inr (.inl fd))))) :: mC am t σm) hst hf) q_t_L_superior q_w_L_superior q_l_L_209 q_n_L (by decide) (by decide +kernel) rfl ⟨Nat.le_of_ble_eq_true rfl, Nat.le_of_ble_eq_true rfl⟩ ⟨by omega, by omega⟩ (Nat.le_of_ble_eq_true rfl) (lw_pm_h aa ad am t σk σm _ _) (lw_pm_h aa ad am t σk1 σm _ _).symm dL_law_1060 ?_ rfl
    have hkk : k + 1 ≤ room_1.cells := by omega
    have hnn : n + 6 ≤ room_1.slots := by omega
    refine j_istore (L' := [(6, .int 1), (5, .int i), (4, .ref od), (3, .ref o), (2, .ref (am 0)), (1, .ref (ad 0)), (0, .ref b)]) (pc := 1063) g dL_law_1063 (Nat.le_of_ble_eq_true rfl) rfl ?_
    refine j_aload_n (pc := 1065) g 4 dL_law_1065 rfl ?_
    refine j_aload_n (pc := 1066) g 6 dL_law_1066 rfl ?_
    refine j_iload (pc := 1067) g 1 dL_law_1067 rfl ?_
    refine j_iconst (v := 1) (pc := 1069) g dL_law_1069 (by decide) ?_
    refine j_iadd (pc := 1070) g dL_law_1070 ?_
    refine j_sld (pc := 1071) gl h1 dL_law_1071 ?_
    refine j_callVi (pc := 1072) (na := 1) (As := [.int (xs (i + 1).toNatClampNeg)]) (rest := []) (q0 := 2) (ci := 10) (w' := ((o, .inl (t 4, 1, .inr (.inl fo))) :: (od, .inl (t 5, 1, .inr (.inr (.inr (.inl fd))))) :: (mC am t σm1 ++ kW aa ad t σk1 []))) g (cX9_superior_ (rs := (o, .inl (t 4, 1, .inr (.inl fo))) :: (od, .inl (t 5, 1, .inr (.inr (.inr (.inl fd))))) :: kW aa ad t σk1 []) hm) q_i_X9_superior q_s_X9_superior rfl rfl rfl q_c_X9_superior q_l_L_211 q_n_X9 (by decide +kernel) rfl ⟨Nat.le_of_ble_eq_true rfl, Nat.le_of_ble_eq_true rfl⟩ ⟨hkk, hnn⟩ (Nat.le_of_ble_eq_true rfl) (lw_pm_m aa ad am t σk1 σm _ _) (lw_pm_m aa ad am t σk1 σm1 _ _).symm dL_law_1072 ?_ rfl
    refine j_istore (L' := [(7, .int r), (6, .int 1), (5, .int i), (4, .ref od), (3, .ref o), (2, .ref (am 0)), (1, .ref (ad 0)), (0, .ref b)]) (pc := 1075) g dL_law_1075 (Nat.le_of_ble_eq_true rfl) rfl ?_
    refine j_aload_n (pc := 1077) g 5 dL_law_1077 rfl ?_
    refine j_callVi (pc := 1078) (na := 0) (As := []) (rest := []) (q0 := 2) (ci := 10) (w' := ((o, .inl (t 4, 1, .inr (.inl fo))) :: (od, .inl (t 5, 1, .inr (.inr (.inr (.inl fd))))) :: (mC am t σm1 ++ kW aa ad t σk1 []))) g (cX9_thrown_ (rs := (o, .inl (t 4, 1, .inr (.inl fo))) :: (od, .inl (t 5, 1, .inr (.inr (.inr (.inl fd))))) :: kW aa ad t σk1 []) rfl) q_i_X9_thrown q_s_X9_thrown rfl rfl rfl q_c_X9_thrown q_l_L_155 q_n_X9 (by decide +kernel) rfl ⟨Nat.le_of_ble_eq_true rfl, Nat.le_of_ble_eq_true rfl⟩ ⟨hkk, hnn⟩ (Nat.le_of_ble_eq_true rfl) (lw_pm_m aa ad am t σk1 σm1 _ _) (lw_pm_m aa ad am t σk1 σm1 _ _).symm dL_law_1078 ?_ rfl
    refine j_iload (pc := 1081) g 1 dL_law_1081 rfl ?_
    refine j_icmp_eq (tgt := 1088) (pc := 1083) g dL_law_1083 (by decide) (fun _ => ?_) (fun h9 => absurd h0 h9)
    refine j_iload (pc := 1088) g 1 dL_law_1088 rfl ?_
    refine j_if_ne (tgt := 1105) (pc := 1090) g dL_law_1090 (by decide) (fun _ => ?_) (fun h9 => absurd h9 (by decide))
    refine j_goto (tgt := 2781) (pc := 1105) g dL_law_1105 (by decide) ?_
    refine j_sub (pc := 2781) g [2, 3, 4, 5, 6, 7] rfl ?_
    exact j_widen g (by omega) (by omega) (next σk1 σm1 fo fd hR)
  · refine j_aload_n (pc := 1052) g 4 dL_law_1052 rfl ?_
    refine j_aload_n (pc := 1053) g 5 dL_law_1053 rfl ?_
    refine j_iload (pc := 1054) g 0 dL_law_1054 rfl ?_
    refine j_iconst (v := 1) (pc := 1056) g dL_law_1056 (by decide) ?_
    refine j_iadd (pc := 1057) g dL_law_1057 ?_
    refine j_sld (pc := 1058) gl h1 dL_law_1058 ?_
    refine j_aload_n (pc := 1059) g 2 dL_law_1059 rfl ?_
    refine j_callH (pc := 1060) (na := 3) (As := [.ref (ad 0), .int (xs (i + 1).toNatClampNeg), .ref o]) (rest := []) (r := 2) (w' := ((o, .inl (t 4, 1, .inr (.inl fo))) :: (od, .inl (t 5, 1, .inr (.inr (.inr (.inl fd))))) :: (mC am t σm ++ kW aa ad t σk1 []))) g (hL_superior_x2 (rs := (od, .inl (t 5, 1, .inr (.inr (.inr (.inl fd))))) :: mC am t σm) hst hf) q_t_L_superior q_w_L_superior q_l_L_209 q_n_L (by decide) (by decide +kernel) rfl ⟨Nat.le_of_ble_eq_true rfl, Nat.le_of_ble_eq_true rfl⟩ ⟨by omega, by omega⟩ (Nat.le_of_ble_eq_true rfl) (lw_pm_h aa ad am t σk σm _ _) (lw_pm_h aa ad am t σk1 σm _ _).symm dL_law_1060 ?_ rfl
    have hkk : k + 1 ≤ room_1.cells := by omega
    have hnn : n + 6 ≤ room_1.slots := by omega
    refine j_istore (L' := [(6, .int 2), (5, .int i), (4, .ref od), (3, .ref o), (2, .ref (am 0)), (1, .ref (ad 0)), (0, .ref b)]) (pc := 1063) g dL_law_1063 (Nat.le_of_ble_eq_true rfl) rfl ?_
    refine j_aload_n (pc := 1065) g 4 dL_law_1065 rfl ?_
    refine j_aload_n (pc := 1066) g 6 dL_law_1066 rfl ?_
    refine j_iload (pc := 1067) g 1 dL_law_1067 rfl ?_
    refine j_iconst (v := 1) (pc := 1069) g dL_law_1069 (by decide) ?_
    refine j_iadd (pc := 1070) g dL_law_1070 ?_
    refine j_sld (pc := 1071) gl h1 dL_law_1071 ?_
    refine j_callVi (pc := 1072) (na := 1) (As := [.int (xs (i + 1).toNatClampNeg)]) (rest := []) (q0 := 2) (ci := 10) (w' := ((o, .inl (t 4, 1, .inr (.inl fo))) :: (od, .inl (t 5, 1, .inr (.inr (.inr (.inl fd))))) :: (mC am t σm1 ++ kW aa ad t σk1 []))) g (cX9_superior_ (rs := (o, .inl (t 4, 1, .inr (.inl fo))) :: (od, .inl (t 5, 1, .inr (.inr (.inr (.inl fd))))) :: kW aa ad t σk1 []) hm) q_i_X9_superior q_s_X9_superior rfl rfl rfl q_c_X9_superior q_l_L_211 q_n_X9 (by decide +kernel) rfl ⟨Nat.le_of_ble_eq_true rfl, Nat.le_of_ble_eq_true rfl⟩ ⟨hkk, hnn⟩ (Nat.le_of_ble_eq_true rfl) (lw_pm_m aa ad am t σk1 σm _ _) (lw_pm_m aa ad am t σk1 σm1 _ _).symm dL_law_1072 ?_ rfl
    refine j_istore (L' := [(7, .int r), (6, .int 2), (5, .int i), (4, .ref od), (3, .ref o), (2, .ref (am 0)), (1, .ref (ad 0)), (0, .ref b)]) (pc := 1075) g dL_law_1075 (Nat.le_of_ble_eq_true rfl) rfl ?_
    refine j_aload_n (pc := 1077) g 5 dL_law_1077 rfl ?_
    refine j_callVi (pc := 1078) (na := 0) (As := []) (rest := []) (q0 := 2) (ci := 10) (w' := ((o, .inl (t 4, 1, .inr (.inl fo))) :: (od, .inl (t 5, 1, .inr (.inr (.inr (.inl fd))))) :: (mC am t σm1 ++ kW aa ad t σk1 []))) g (cX9_thrown_ (rs := (o, .inl (t 4, 1, .inr (.inl fo))) :: (od, .inl (t 5, 1, .inr (.inr (.inr (.inl fd))))) :: kW aa ad t σk1 []) rfl) q_i_X9_thrown q_s_X9_thrown rfl rfl rfl q_c_X9_thrown q_l_L_155 q_n_X9 (by decide +kernel) rfl ⟨Nat.le_of_ble_eq_true rfl, Nat.le_of_ble_eq_true rfl⟩ ⟨hkk, hnn⟩ (Nat.le_of_ble_eq_true rfl) (lw_pm_m aa ad am t σk1 σm1 _ _) (lw_pm_m aa ad am t σk1 σm1 _ _).symm dL_law_1078 ?_ rfl
    refine j_iload (pc := 1081) g 1 dL_law_1081 rfl ?_
    refine j_icmp_eq (tgt := 1088) (pc := 1083) g dL_law_1083 (by decide) (fun _ => ?_) (fun h9 => absurd h0 h9)
    refine j_iload (pc := 1088) g 1 dL_law_1088 rfl ?_
    refine j_if_ne (tgt := 1105) (pc := 1090) g dL_law_1090 (by decide) (fun _ => ?_) (fun h9 => absurd h9 (by decide))
    refine j_goto (tgt := 2781) (pc := 1105) g dL_law_1105 (by decide) ?_
    refine j_sub (pc := 2781) g [2, 3, 4, 5, 6, 7] rfl ?_
    exact j_widen g (by omega) (by omega) (next σk1 σm1 fo fd hR)
