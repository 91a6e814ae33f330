/-! THE LAW'S LOOP -/
set_option maxRecDepth 100000 in
set_option maxHeartbeats 4000000 in
theorem lw_step {D : va_G} {t : Nat → ClassId} {aa : gx_AA} {l : Launch} {J : gx_J} {b Ln : Nat} {xs : Nat → Int32} (gl : gx_GL D t (gx_E0 aa) l room_1 cL_law RL 10 J b Ln xs) (hst : l.stackTraces = false) {k n : Nat} (hk : k + 1 ≤ room_1.cells) (hn : n + 6 ≤ room_1.slots) {i : Int32} (h1 : vp_in (i + 1) Ln) (h2 : vp_in (i + 2) Ln) (h3 : vp_in (i + 3) Ln) {ad am : Nat → Nat} {o od : Nat} {σk : CS} {σm : OS} {fo : Nat → Int64} {fd : Nat → UInt64} {c : Nat} (h : zR c σk σm) (hc : c < 30900) (v : Int32) (next : ∀ (σk2 : CS) (σm2 : OS) (fo2 : Nat → Int64) (fd2 : Nat → UInt64), zR (c + 60) σk2 σm2 → J (k + 1) (n + 6) ((o, .inl (t 4, 1, .inr (.inl fo2))) :: (od, .inl (t 5, 1, .inr (.inr (.inr (.inl fd2))))) :: (mC am t σm2 ++ kW aa ad t σk2 [])) 2781 [(5, .int i), (4, .ref od), (3, .ref o), (2, .ref (am 0)), (1, .ref (ad 0)), (0, .ref b)] []) : J k n ((o, .inl (t 4, 1, .inr (.inl fo))) :: (od, .inl (t 5, 1, .inr (.inr (.inr (.inl fd))))) :: (mC am t σm ++ kW aa ad t σk [])) 44 [(5, .int i), (4, .ref od), (3, .ref o), (2, .ref (am 0)), (1, .ref (ad 0)), (0, .ref b)] [.int v] := by
  have g := gl.g
  have hb : c + 60 ≤ 2 ^ 31 := by omega
  by_cases hr : v.toInt < 0 ∨ 51 < v.toInt
  · refine j_tableOut (tgt := 2781) (pc := 44) g dL_law_44 hr (by decide) ?_
    exact j_widen g (by omega) (by omega) (next σk σm fo fd (zR_mv (by omega) h (fun _ _ => rfl) (fun _ _ => rfl)))
  · obtain ⟨m, hm, rfl⟩ : ∃ m : Nat, m < 52 ∧ v = nI m := by
      have h0 : ¬ v < 0 := by
        rw [Int32.lt_iff_toInt_lt, Int32.toInt_zero]
        omega
      obtain ⟨j, hj, e⟩ := nI_of h0
      refine ⟨j, ?_, e⟩
      rw [e, nI_toInt hj] at hr
      omega
    clear hr
    match m, hm with
    | 0, _ => exact j_tableIn (off := 224) (tgt := 268) (pc := 44) g dL_law_44 (by decide) (by decide) rfl (by decide) (lw_c0 gl hst hk hn h1 h2 h3 (ag_appoint h hb _ _ _) next)
    | 1, _ => exact j_tableIn (off := 304) (tgt := 348) (pc := 44) g dL_law_44 (by decide) (by decide) rfl (by decide) (lw_c1 gl hst hk hn h1 h2 h3 (ag_promote h hb _) next)
    | 2, _ => exact j_tableIn (off := 360) (tgt := 404) (pc := 44) g dL_law_44 (by decide) (by decide) rfl (by decide) (lw_c2 gl hst hk hn h1 h2 h3 (ag_transfer h hb _ _) next)
    | 3, _ => exact j_tableIn (off := 428) (tgt := 472) (pc := 44) g dL_law_44 (by decide) (by decide) rfl (by decide) (lw_c3 gl hst hk hn h1 h2 h3 (ag_dismiss h hb _) next)
    | 4, _ => exact j_tableIn (off := 484) (tgt := 528) (pc := 44) g dL_law_44 (by decide) (by decide) rfl (by decide) (lw_c4 gl hst hk hn h1 h2 h3 (ag_issue h hb _ _ _) next)
    | 5, _ => exact j_tableIn (off := 564) (tgt := 608) (pc := 44) g dL_law_44 (by decide) (by decide) rfl (by decide) (lw_c5 gl hst hk hn h1 h2 h3 (ag_passHours h hb _) next)
    | 6, _ => exact j_tableIn (off := 620) (tgt := 664) (pc := 44) g dL_law_44 (by decide) (by decide) rfl (by decide) (lw_c6 gl hst hk hn h1 h2 h3 (ag_define h hb _ _ _) next)
    | 7, _ => exact j_tableIn (off := 704) (tgt := 748) (pc := 44) g dL_law_44 (by decide) (by decide) rfl (by decide) (lw_c7 gl hst hk hn h1 h2 h3 (ag_erase h hb _ _) next)
    | 8, _ => exact j_tableIn (off := 776) (tgt := 820) (pc := 44) g dL_law_44 (by decide) (by decide) rfl (by decide) (lw_c8 gl hst hk hn h1 h2 h3 (ag_hour h) next)
    | 9, _ => exact j_tableIn (off := 789) (tgt := 833) (pc := 44) g dL_law_44 (by decide) (by decide) rfl (by decide) (lw_c9 gl hst hk hn h1 h2 h3 (ag_officerCount h) next)
    | 10, _ => exact j_tableIn (off := 802) (tgt := 846) (pc := 44) g dL_law_44 (by decide) (by decide) rfl (by decide) (lw_c10 gl hst hk hn h1 h2 h3 (ag_appointedCount h) next)
    | 11, _ => exact j_tableIn (off := 815) (tgt := 859) (pc := 44) g dL_law_44 (by decide) (by decide) rfl (by decide) (lw_c11 gl hst hk hn h1 h2 h3 (ag_isInNavy h _) next)
    | 12, _ => exact j_tableIn (off := 840) (tgt := 884) (pc := 44) g dL_law_44 (by decide) (by decide) rfl (by decide) (lw_c12 gl hst hk hn h1 h2 h3 (ag_rank h _) next)
    | 13, _ => exact j_tableIn (off := 896) (tgt := 940) (pc := 44) g dL_law_44 (by decide) (by decide) rfl (by decide) (lw_c13 gl hst hk hn h1 h2 h3 (ag_loyalty h _) next)
    | 14, _ => exact j_tableIn (off := 952) (tgt := 996) (pc := 44) g dL_law_44 (by decide) (by decide) rfl (by decide) (lw_c14 gl hst hk hn h1 h2 h3 (ag_refusals h _) next)
    | 15, _ => exact j_tableIn (off := 1008) (tgt := 1052) (pc := 44) g dL_law_44 (by decide) (by decide) rfl (by decide) (lw_c15 gl hst hk hn h1 h2 h3 (ag_superior h _) next)
    | 16, _ => exact j_tableIn (off := 1064) (tgt := 1108) (pc := 44) g dL_law_44 (by decide) (by decide) rfl (by decide) (lw_c16 gl hst hk hn h1 h2 h3 (ag_subordinates h _) next)
    | 17, _ => exact j_tableIn (off := 1120) (tgt := 1164) (pc := 44) g dL_law_44 (by decide) (by decide) rfl (by decide) (lw_c17 gl hst hk hn h1 h2 h3 (ag_depth h _) next)
    | 18, _ => exact j_tableIn (off := 1176) (tgt := 1220) (pc := 44) g dL_law_44 (by decide) (by decide) rfl (by decide) (lw_c18 gl hst hk hn h1 h2 h3 (ag_depthFromTop h _) next)
    | 19, _ => exact j_tableIn (off := 1232) (tgt := 1276) (pc := 44) g dL_law_44 (by decide) (by decide) rfl (by decide) (lw_c19 gl hst hk hn h1 h2 h3 (ag_commandSize h _) next)
    | 20, _ => exact j_tableIn (off := 1288) (tgt := 1332) (pc := 44) g dL_law_44 (by decide) (by decide) rfl (by decide) (lw_c20 gl hst hk hn h1 h2 h3 (ag_commandSizeByCounting h _) next)
    | 21, _ => exact j_tableIn (off := 1344) (tgt := 1388) (pc := 44) g dL_law_44 (by decide) (by decide) rfl (by decide) (lw_c21 gl hst hk hn h1 h2 h3 (ag_isAbove h _ _) next)
    | 22, _ => exact j_tableIn (off := 1419) (tgt := 1463) (pc := 44) g dL_law_44 (by decide) (by decide) rfl (by decide) (lw_c22 gl hst hk hn h1 h2 h3 (ag_commonSuperior h _ _) next)
    | 23, _ => exact j_tableIn (off := 1487) (tgt := 1531) (pc := 44) g dL_law_44 (by decide) (by decide) rfl (by decide) (lw_c23 gl hst hk hn h1 h2 h3 (ag_greatestDepth h) next)
    | 24, _ => exact j_tableIn (off := 1500) (tgt := 1544) (pc := 44) g dL_law_44 (by decide) (by decide) rfl (by decide) (lw_c24 gl hst hk hn h1 h2 h3 (ag_hoursFor h _ _) next)
    | 25, _ => exact j_tableIn (off := 1568) (tgt := 1612) (pc := 44) g dL_law_44 (by decide) (by decide) rfl (by decide) (lw_c25 gl hst hk hn h1 h2 h3 (ag_greatestSeverity h _ _) next)
    | 26, _ => exact j_tableIn (off := 1636) (tgt := 1680) (pc := 44) g dL_law_44 (by decide) (by decide) rfl (by decide) (lw_c26 gl hst hk hn h1 h2 h3 (ag_greatestSeverityByTrial h _ _) next)
    | 27, _ => exact j_tableIn (off := 1704) (tgt := 1748) (pc := 44) g dL_law_44 (by decide) (by decide) rfl (by decide) (lw_c27 gl hst hk hn h1 h2 h3 (ag_firstRefusal h _ _ _) next)
    | 28, _ => exact j_tableIn (off := 1784) (tgt := 1828) (pc := 44) g dL_law_44 (by decide) (by decide) rfl (by decide) (lw_c28 gl hst hk hn h1 h2 h3 (ag_orderCount h) next)
    | 29, _ => exact j_tableIn (off := 1797) (tgt := 1841) (pc := 44) g dL_law_44 (by decide) (by decide) rfl (by decide) (lw_c29 gl hst hk hn h1 h2 h3 (ag_holder h _) next)
    | 30, _ => exact j_tableIn (off := 1853) (tgt := 1897) (pc := 44) g dL_law_44 (by decide) (by decide) rfl (by decide) (lw_c30 gl hst hk hn h1 h2 h3 (ag_target h _) next)
    | 31, _ => exact j_tableIn (off := 1909) (tgt := 1953) (pc := 44) g dL_law_44 (by decide) (by decide) rfl (by decide) (lw_c31 gl hst hk hn h1 h2 h3 (ag_severity h _) next)
    | 32, _ => exact j_tableIn (off := 1965) (tgt := 2009) (pc := 44) g dL_law_44 (by decide) (by decide) rfl (by decide) (lw_c32 gl hst hk hn h1 h2 h3 (ag_executedOrders h) next)
    | 33, _ => exact j_tableIn (off := 1978) (tgt := 2022) (pc := 44) g dL_law_44 (by decide) (by decide) rfl (by decide) (lw_c33 gl hst hk hn h1 h2 h3 (ag_refusedOrders h) next)
    | 34, _ => exact j_tableIn (off := 1991) (tgt := 2035) (pc := 44) g dL_law_44 (by decide) (by decide) rfl (by decide) (lw_c34 gl hst hk hn h1 h2 h3 (ag_lostOrders h) next)
    | 35, _ => exact j_tableIn (off := 2004) (tgt := 2048) (pc := 44) g dL_law_44 (by decide) (by decide) rfl (by decide) (lw_c35 gl hst hk hn h1 h2 h3 (ag_flagCount h) next)
    | 36, _ => exact j_tableIn (off := 2017) (tgt := 2061) (pc := 44) g dL_law_44 (by decide) (by decide) rfl (by decide) (lw_c36 gl hst hk hn h1 h2 h3 (ag_meaning h _ _) next)
    | 37, _ => exact j_tableIn (off := 2089) (tgt := 2133) (pc := 44) g dL_law_44 (by decide) (by decide) rfl (by decide) (lw_c37 gl hst hk hn h1 h2 h3 (ag_flagsWith h _) next)
    | 38, _ => exact j_tableIn (off := 2145) (tgt := 2189) (pc := 44) g dL_law_44 (by decide) (by decide) rfl (by decide) (lw_c38 gl hst hk hn h1 h2 h3 (ag_officerByRank h _) next)
    | 39, _ => exact j_tableIn (off := 2201) (tgt := 2245) (pc := 44) g dL_law_44 (by decide) (by decide) rfl (by decide) (lw_c39 gl hst hk hn h1 h2 h3 (ag_meanLoyalty h) next)
    | 40, _ => exact j_tableIn (off := 2242) (tgt := 2286) (pc := 44) g dL_law_44 (by decide) (by decide) rfl (by decide) (lw_c40 gl hst hk hn h1 h2 h3 (ag_executedShare h hc) next)
    | 41, _ => exact j_tableIn (off := 2308) (tgt := 2352) (pc := 44) g dL_law_44 (by decide) (by decide) rfl (by decide) (lw_c41 gl hst hk hn h1 h2 h3 (ag_isConsistent h) next)
    | 42, _ => exact j_tableIn (off := 2321) (tgt := 2365) (pc := 44) g dL_law_44 (by decide) (by decide) rfl (by decide) (lw_c42 gl hst hk hn h1 h2 h3 (ag_feed h _) next)
    | 43, _ => exact j_tableIn (off := 2379) (tgt := 2423) (pc := 44) g dL_law_44 (by decide) (by decide) rfl (by decide) (lw_c43 gl hst hk hn h1 h2 h3 (ag_runCommands h hb) next)
    | 44, _ => exact j_tableIn (off := 2423) (tgt := 2467) (pc := 44) g dL_law_44 (by decide) (by decide) rfl (by decide) (lw_c44 gl hst hk hn h1 h2 h3 (ag_errorPosition h) next)
    | 45, _ => exact j_tableIn (off := 2467) (tgt := 2511) (pc := 44) g dL_law_44 (by decide) (by decide) rfl (by decide) (lw_c45 gl hst hk hn h1 h2 h3 (ag_failedCommand h) next)
    | 46, _ => exact j_tableIn (off := 2511) (tgt := 2555) (pc := 44) g dL_law_44 (by decide) (by decide) rfl (by decide) (lw_c46 gl hst hk hn h1 h2 h3 (ag_writeCommand h _) next)
    | 47, _ => exact j_tableIn (off := 2567) (tgt := 2611) (pc := 44) g dL_law_44 (by decide) (by decide) rfl (by decide) (lw_c47 gl hst hk hn h1 h2 h3 (ag_outputChar h _) next)
    | 48, _ => exact j_tableIn (off := 2623) (tgt := 2667) (pc := 44) g dL_law_44 (by decide) (by decide) rfl (by decide) (lw_c48 gl hst hk hn h1 h2 h3 (ag_undoCount h) next)
    | 49, _ => exact j_tableIn (off := 2636) (tgt := 2680) (pc := 44) g dL_law_44 (by decide) (by decide) rfl (by decide) (lw_c49 gl hst hk hn h1 h2 h3 (ag_undo h) next)
    | 50, _ => exact j_tableIn (off := 2680) (tgt := 2724) (pc := 44) g dL_law_44 (by decide) (by decide) rfl (by decide) (lw_c50 gl hst hk hn h1 h2 h3 (ag_save h) next)
    | 51, _ => exact j_tableIn (off := 2693) (tgt := 2737) (pc := 44) g dL_law_44 (by decide) (by decide) rfl (by decide) (lw_c51 gl hst hk hn h1 h2 h3 (ag_restore h) next)
    | m + 52, hm => exact absurd hm (by omega)
theorem n_exit {Ln j : Nat} (hL : Ln ≤ 2048) (hj : j < 2 ^ 20) (h : ¬ Int32.ofNat Ln - 4 < nI (4 * j)) : 4 * j + 4 ≤ Ln := by
  by_cases c : 4 ≤ Ln
  · have e : Int32.ofNat Ln - 4 = nI (Ln - 4) := n_sub (a := Ln) (b := 4) c
    rw [e, nI_ltI (by omega) (by omega)] at h
    omega
  · exfalso
    apply h
    have hn : Ln = 0 ∨ Ln = 1 ∨ Ln = 2 ∨ Ln = 3 := by omega
    have e : (Int32.ofNat Ln - 4).toInt < 0 := by
      rcases hn with rfl | rfl | rfl | rfl <;> decide
    rw [Int32.lt_iff_toInt_lt, nI_toInt (by omega)]
    omega
set_option maxRecDepth 100000 in
set_option maxHeartbeats 4000000 in
theorem lw_loop {D : va_G} {t : Nat → ClassId} {aa : gx_AA} {l : Launch} {J : gx_J} {b Ln : Nat} {xs : Nat → Int32} (gl : gx_GL D t (gx_E0 aa) l room_1 cL_law RL 10 J b Ln xs) (hst : l.stackTraces = false) (hLn : Ln ≤ 2048) {ad am : Nat → Nat} {o od : Nat} (hend : ∀ (k n : Nat) (w : va_W) (L : List (Nat × Value)), k ≤ 603072 → n ≤ 7202922 → J k n w 2787 L []) : ∀ (d j k n : Nat) (σk : CS) (σm : OS) (fo : Nat → Int64) (fd : Nat → UInt64), Ln ≤ 4 * (j + d) → j + d ≤ 600 → k + d ≤ 603072 → n + 6 * d ≤ 7202922 → zR (60 * j) σk σm → J k n ((o, .inl (t 4, 1, .inr (.inl fo))) :: (od, .inl (t 5, 1, .inr (.inr (.inr (.inl fd))))) :: (mC am t σm ++ kW aa ad t σk [])) 28 [(5, .int (nI (4 * j))), (4, .ref od), (3, .ref o), (2, .ref (am 0)), (1, .ref (ad 0)), (0, .ref b)] [] := by
  have g := gl.g
  have hrc : room_1.cells = 603072 := rfl
  have hrs : room_1.slots = 7202922 := rfl
  intro d
  induction d with
  | zero =>
    intro j k n σk σm fo fd hL hj hk hn h
    refine j_iload (pc := 28) g 0 dL_law_28 rfl ?_
    refine j_aload_n (pc := 30) g 5 dL_law_30 rfl ?_
    refine j_slen (pc := 31) gl dL_law_31 ?_
    refine j_iconst (v := 4) (pc := 32) g dL_law_32 (by decide) ?_
    refine j_isub (pc := 33) g dL_law_33 ?_
    refine j_icmp_gt (tgt := 2787) (pc := 34) g dL_law_34 (by decide) (fun _ => hend _ _ _ _ (by omega) (by omega)) (fun hno => ?_)
    have := n_exit hLn (by omega) hno
    exfalso
    omega
  | succ d ih =>
    intro j k n σk σm fo fd hL hj hk hn h
    refine j_iload (pc := 28) g 0 dL_law_28 rfl ?_
    refine j_aload_n (pc := 30) g 5 dL_law_30 rfl ?_
    refine j_slen (pc := 31) gl dL_law_31 ?_
    refine j_iconst (v := 4) (pc := 32) g dL_law_32 (by decide) ?_
    refine j_isub (pc := 33) g dL_law_33 ?_
    refine j_icmp_gt (tgt := 2787) (pc := 34) g dL_law_34 (by decide) (fun _ => hend _ _ _ _ (by omega) (by omega)) (fun hno => ?_)
    have hle := n_exit hLn (by omega) hno
    have i0 : vp_in (nI (4 * j)) Ln := nI_in (by omega) (by omega)
    have i1 : vp_in (nI (4 * j) + 1) Ln := by rw [nI_1]; exact nI_in (by omega) (by omega)
    have i2 : vp_in (nI (4 * j) + 2) Ln := by rw [show (2 : Int32) = nI 2 from rfl, nI_add]; exact nI_in (by omega) (by omega)
    have i3 : vp_in (nI (4 * j) + 3) Ln := by rw [show (3 : Int32) = nI 3 from rfl, nI_add]; exact nI_in (by omega) (by omega)
    refine j_aload_n (pc := 37) g 5 dL_law_37 rfl ?_
    refine j_iload (pc := 38) g 0 dL_law_38 rfl ?_
    refine j_sld (pc := 40) gl i0 dL_law_40 ?_
    refine j_bipush (v := 63) (pc := 41) g dL_law_41 (by decide) ?_
    refine j_iand (pc := 43) g dL_law_43 ?_
    refine lw_step gl hst (by omega) (by omega) i1 i2 i3 h (by omega) _ (fun σk2 σm2 fo2 fd2 h2 => ?_)
    refine j_iinc (v := nI (4 * (j + 1))) (L' := [(5, .int (nI (4 * (j + 1)))), (4, .ref od), (3, .ref o), (2, .ref (am 0)), (1, .ref (ad 0)), (0, .ref b)]) (pc := 2781) g 0 dL_law_2781 rfl (by rw [show Int32.ofInt 4 = nI 4 from rfl, nI_add]; congr 1) (by decide) rfl ?_
    refine j_goto (tgt := 28) (pc := 2784) g dL_law_2784 (by decide) ?_
    exact ih (j + 1) (k + 1) (n + 6) σk2 σm2 fo2 fd2 (by omega) (by omega) (by omega) (by omega) (by rw [show 60 * (j + 1) = 60 * j + 60 by omega]; exact h2)
