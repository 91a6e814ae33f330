set_option maxRecDepth 100000 in
set_option maxHeartbeats 4000000 in
theorem lw_c0 {D : va_G} {t : Nat → ClassId} {aa : gx_AA} {l : Launch} {J : gx_J} {b Ln : Nat} {xs : Nat → Int32} (gl : gx_GL D t (gx_E0 aa) l room_1 cL_law RL 10 J b Ln xs) (hst : l.stackTraces = false) {k n : Nat} (hk : k + 1 ≤ room_1.cells) (hn : n + 6 ≤ room_1.slots) {i : Int32} (h1 : vp_in (i + 1) Ln) (h2 : vp_in (i + 2) Ln) (h3 : vp_in (i + 3) Ln) {ad am : Nat → Nat} {o od : Nat} {σk : CS} {σm : OS} {fo : Nat → Int64} {fd : Nat → UInt64} {R : CS → OS → Prop} (hag : Ag_appoint R σk σm (xs (i + 1).toNatClampNeg) (xs (i + 2).toNatClampNeg) (xs (i + 3).toNatClampNeg)) (next : ∀ (σk2 : CS) (σm2 : OS) (fo2 : Nat → Int64) (fd2 : Nat → UInt64), R σk2 σm2 → J (k + 1) (n + 6) ((o, .inl (t 4, 1, .inr (.inl fo2))) :: (od, .inl (t 5, 1, .inr (.inr (.inr (.inl fd2))))) :: (mC am t σm2 ++ kW aa ad t σk2 [])) 2781 [(5, .int i), (4, .ref od), (3, .ref o), (2, .ref (am 0)), (1, .ref (ad 0)), (0, .ref b)] []) : J k n ((o, .inl (t 4, 1, .inr (.inl fo))) :: (od, .inl (t 5, 1, .inr (.inr (.inr (.inl fd))))) :: (mC am t σm ++ kW aa ad t σk [])) 268 [(5, .int i), (4, .ref od), (3, .ref o), (2, .ref (am 0)), (1, .ref (ad 0)), (0, .ref b)] [] := by
  have g := gl.g
  have hkk : k ≤ room_1.cells := by omega
  have hnn : n ≤ room_1.slots := by omega
  obtain ⟨r, σm1, hm, hag⟩ := hag
  rcases hag with ⟨σk1, hf, h0, hR⟩ | ⟨σk1, hf, h0, hR⟩ | ⟨σk1, hf, h0, hR⟩ | ⟨σk1, hf, h0, hR⟩
  · refine j_aload_n (pc := 268) g 4 dL_law_268 rfl ?_
    refine j_aload_n (pc := 269) g 5 dL_law_269 rfl ?_
    refine j_iload (pc := 270) g 0 dL_law_270 rfl ?_
    refine j_iconst (v := 1) (pc := 272) g dL_law_272 (by decide) ?_
    refine j_iadd (pc := 273) g dL_law_273 ?_
    refine j_sld (pc := 274) gl h1 dL_law_274 ?_
    refine j_aload_n (pc := 275) g 5 dL_law_275 rfl ?_
    refine j_iload (pc := 276) g 0 dL_law_276 rfl ?_
    refine j_iconst (v := 2) (pc := 278) g dL_law_278 (by decide) ?_
    refine j_iadd (pc := 279) g dL_law_279 ?_
    refine j_sld (pc := 280) gl h2 dL_law_280 ?_
    refine j_aload_n (pc := 281) g 5 dL_law_281 rfl ?_
    refine j_iload (pc := 282) g 0 dL_law_282 rfl ?_
    refine j_iconst (v := 3) (pc := 284) g dL_law_284 (by decide) ?_
    refine j_iadd (pc := 285) g dL_law_285 ?_
    refine j_sld (pc := 286) gl h3 dL_law_286 ?_
    refine j_aload_n (pc := 287) g 2 dL_law_287 rfl ?_
    refine j_callH (pc := 288) (na := 5) (As := [.ref (ad 0), .int (xs (i + 1).toNatClampNeg), .int (xs (i + 2).toNatClampNeg), .int (xs (i + 3).toNatClampNeg), .ref o]) (rest := []) (r := 0) (w' := ((o, .inl (t 4, 1, .inr (.inl (vp_updL fo (0 : Int32).toNatClampNeg r.toInt64)))) :: (od, .inl (t 5, 1, .inr (.inr (.inr (.inl fd))))) :: (mC am t σm ++ kW aa ad t σk1 []))) g (hL_appoint_ok (rs := (od, .inl (t 5, 1, .inr (.inr (.inr (.inl fd))))) :: mC am t σm) hst hf) q_t_L_appoint q_w_L_appoint q_l_L_149 q_n_L (by decide) (by decide +kernel) rfl ⟨Nat.le_of_ble_eq_true rfl, Nat.le_of_ble_eq_true rfl⟩ ⟨by omega, by omega⟩ (Nat.le_of_ble_eq_true rfl) (lw_pm_h aa ad am t σk σm _ _) (lw_pm_h aa ad am t σk1 σm _ _).symm dL_law_288 ?_ rfl
    have hkk : k + 0 ≤ room_1.cells := by omega
    have hnn : n + 0 ≤ room_1.slots := by omega
    refine j_istore (L' := [(6, .int 0), (5, .int i), (4, .ref od), (3, .ref o), (2, .ref (am 0)), (1, .ref (ad 0)), (0, .ref b)]) (pc := 291) g dL_law_291 (Nat.le_of_ble_eq_true rfl) rfl ?_
    refine j_aload_n (pc := 293) g 4 dL_law_293 rfl ?_
    refine j_aload_n (pc := 294) g 6 dL_law_294 rfl ?_
    refine j_iload (pc := 295) g 1 dL_law_295 rfl ?_
    refine j_iconst (v := 1) (pc := 297) g dL_law_297 (by decide) ?_
    refine j_iadd (pc := 298) g dL_law_298 ?_
    refine j_sld (pc := 299) gl h1 dL_law_299 ?_
    refine j_aload_n (pc := 300) g 6 dL_law_300 rfl ?_
    refine j_iload (pc := 301) g 1 dL_law_301 rfl ?_
    refine j_iconst (v := 2) (pc := 303) g dL_law_303 (by decide) ?_
    refine j_iadd (pc := 304) g dL_law_304 ?_
    refine j_sld (pc := 305) gl h2 dL_law_305 ?_
    refine j_aload_n (pc := 306) g 6 dL_law_306 rfl ?_
    refine j_iload (pc := 307) g 1 dL_law_307 rfl ?_
    refine j_iconst (v := 3) (pc := 309) g dL_law_309 (by decide) ?_
    refine j_iadd (pc := 310) g dL_law_310 ?_
    refine j_sld (pc := 311) gl h3 dL_law_311 ?_
    refine j_callVi (pc := 312) (na := 3) (As := [.int (xs (i + 1).toNatClampNeg), .int (xs (i + 2).toNatClampNeg), .int (xs (i + 3).toNatClampNeg)]) (rest := []) (q0 := 2) (ci := 10) (w' := ((o, .inl (t 4, 1, .inr (.inl (vp_updL fo (0 : Int32).toNatClampNeg r.toInt64)))) :: (od, .inl (t 5, 1, .inr (.inr (.inr (.inl fd))))) :: (mC am t σm1 ++ kW aa ad t σk1 []))) g (cX9_appoint_ (rs := (o, .inl (t 4, 1, .inr (.inl (vp_updL fo (0 : Int32).toNatClampNeg r.toInt64)))) :: (od, .inl (t 5, 1, .inr (.inr (.inr (.inl fd))))) :: kW aa ad t σk1 []) hm) q_i_X9_appoint q_s_X9_appoint rfl rfl rfl q_c_X9_appoint q_l_L_154 q_n_X9 (by decide +kernel) rfl ⟨Nat.le_of_ble_eq_true rfl, Nat.le_of_ble_eq_true rfl⟩ ⟨hkk, hnn⟩ (Nat.le_of_ble_eq_true rfl) (lw_pm_m aa ad am t σk1 σm _ _) (lw_pm_m aa ad am t σk1 σm1 _ _).symm dL_law_312 ?_ rfl
    refine j_istore (L' := [(7, .int r), (6, .int 0), (5, .int i), (4, .ref od), (3, .ref o), (2, .ref (am 0)), (1, .ref (ad 0)), (0, .ref b)]) (pc := 315) g dL_law_315 (Nat.le_of_ble_eq_true rfl) rfl ?_
    refine j_aload_n (pc := 317) g 5 dL_law_317 rfl ?_
    refine j_callVi (pc := 318) (na := 0) (As := []) (rest := []) (q0 := 2) (ci := 10) (w' := ((o, .inl (t 4, 1, .inr (.inl (vp_updL fo (0 : Int32).toNatClampNeg r.toInt64)))) :: (od, .inl (t 5, 1, .inr (.inr (.inr (.inl fd))))) :: (mC am t σm1 ++ kW aa ad t σk1 []))) g (cX9_thrown_ (rs := (o, .inl (t 4, 1, .inr (.inl (vp_updL fo (0 : Int32).toNatClampNeg r.toInt64)))) :: (od, .inl (t 5, 1, .inr (.inr (.inr (.inl fd))))) :: kW aa ad t σk1 []) rfl) q_i_X9_thrown q_s_X9_thrown rfl rfl rfl q_c_X9_thrown q_l_L_155 q_n_X9 (by decide +kernel) rfl ⟨Nat.le_of_ble_eq_true rfl, Nat.le_of_ble_eq_true rfl⟩ ⟨hkk, hnn⟩ (Nat.le_of_ble_eq_true rfl) (lw_pm_m aa ad am t σk1 σm1 _ _) (lw_pm_m aa ad am t σk1 σm1 _ _).symm dL_law_318 ?_ rfl
    refine j_iload (pc := 321) g 1 dL_law_321 rfl ?_
    refine j_icmp_eq (tgt := 328) (pc := 323) g dL_law_323 (by decide) (fun _ => ?_) (fun h9 => absurd h0 h9)
    refine j_iload (pc := 328) g 1 dL_law_328 rfl ?_
    refine j_if_ne (tgt := 345) (pc := 330) g dL_law_330 (by decide) (fun h9 => absurd rfl h9) (fun _ => ?_)
    refine j_aload_n (pc := 333) g 4 dL_law_333 rfl ?_
    refine j_iconst (v := 0) (pc := 334) g dL_law_334 (by decide) ?_
    refine j_lald (pc := 335) g 0 rfl (show gx_in (0 : Int32) 1 by decide) dL_law_335 ?_
    refine j_iload (pc := 336) g 0 dL_law_336 rfl ?_
    refine j_i2l (pc := 338) g dL_law_338 ?_
    refine j_lcmp (pc := 339) g dL_law_339 ?_
    refine j_if_eq (tgt := 345) (pc := 340) g dL_law_340 (by decide) (fun _ => ?_) (fun h9 => absurd (lw_cmp0 _) h9)
    refine j_goto (tgt := 2781) (pc := 345) g dL_law_345 (by decide) ?_
    refine j_sub (pc := 2781) g [2, 3, 4, 5, 6, 7] rfl ?_
    exact j_widen g (by omega) (by omega) (next σk1 σm1 (vp_updL fo (0 : Int32).toNatClampNeg r.toInt64) fd hR)
  · refine j_aload_n (pc := 268) g 4 dL_law_268 rfl ?_
    refine j_aload_n (pc := 269) g 5 dL_law_269 rfl ?_
    refine j_iload (pc := 270) g 0 dL_law_270 rfl ?_
    refine j_iconst (v := 1) (pc := 272) g dL_law_272 (by decide) ?_
    refine j_iadd (pc := 273) g dL_law_273 ?_
    refine j_sld (pc := 274) gl h1 dL_law_274 ?_
    refine j_aload_n (pc := 275) g 5 dL_law_275 rfl ?_
    refine j_iload (pc := 276) g 0 dL_law_276 rfl ?_
    refine j_iconst (v := 2) (pc := 278) g dL_law_278 (by decide) ?_
    refine j_iadd (pc := 279) g dL_law_279 ?_
    refine j_sld (pc := 280) gl h2 dL_law_280 ?_
    refine j_aload_n (pc := 281) g 5 dL_law_281 rfl ?_
    refine j_iload (pc := 282) g 0 dL_law_282 rfl ?_
    refine j_iconst (v := 3) (pc := 284) g dL_law_284 (by decide) ?_
    refine j_iadd (pc := 285) g dL_law_285 ?_
    refine j_sld (pc := 286) gl h3 dL_law_286 ?_
    refine j_aload_n (pc := 287) g 2 dL_law_287 rfl ?_
    refine j_callH (pc := 288) (na := 5) (As := [.ref (ad 0), .int (xs (i + 1).toNatClampNeg), .int (xs (i + 2).toNatClampNeg), .int (xs (i + 3).toNatClampNeg), .ref o]) (rest := []) (r := 1) (w' := ((o, .inl (t 4, 1, .inr (.inl fo))) :: (od, .inl (t 5, 1, .inr (.inr (.inr (.inl fd))))) :: (mC am t σm ++ kW aa ad t σk1 []))) g (hL_appoint_x1 (rs := (od, .inl (t 5, 1, .inr (.inr (.inr (.inl fd))))) :: mC am t σm) hst hf) q_t_L_appoint q_w_L_appoint q_l_L_149 q_n_L (by decide) (by decide +kernel) rfl ⟨Nat.le_of_ble_eq_true rfl, Nat.le_of_ble_eq_true rfl⟩ ⟨by omega, by omega⟩ (Nat.le_of_ble_eq_true rfl) (lw_pm_h aa ad am t σk σm _ _) (lw_pm_h aa ad am t σk1 σm _ _).symm dL_law_288 ?_ rfl
    have hkk : k + 1 ≤ room_1.cells := by omega
    have hnn : n + 6 ≤ room_1.slots := by omega
    refine j_istore (L' := [(6, .int 1), (5, .int i), (4, .ref od), (3, .ref o), (2, .ref (am 0)), (1, .ref (ad 0)), (0, .ref b)]) (pc := 291) g dL_law_291 (Nat.le_of_ble_eq_true rfl) rfl ?_
    refine j_aload_n (pc := 293) g 4 dL_law_293 rfl ?_
    refine j_aload_n (pc := 294) g 6 dL_law_294 rfl ?_
    refine j_iload (pc := 295) g 1 dL_law_295 rfl ?_
    refine j_iconst (v := 1) (pc := 297) g dL_law_297 (by decide) ?_
    refine j_iadd (pc := 298) g dL_law_298 ?_
    refine j_sld (pc := 299) gl h1 dL_law_299 ?_
    refine j_aload_n (pc := 300) g 6 dL_law_300 rfl ?_
    refine j_iload (pc := 301) g 1 dL_law_301 rfl ?_
    refine j_iconst (v := 2) (pc := 303) g dL_law_303 (by decide) ?_
    refine j_iadd (pc := 304) g dL_law_304 ?_
    refine j_sld (pc := 305) gl h2 dL_law_305 ?_
    refine j_aload_n (pc := 306) g 6 dL_law_306 rfl ?_
    refine j_iload (pc := 307) g 1 dL_law_307 rfl ?_
    refine j_iconst (v := 3) (pc := 309) g dL_law_309 (by decide) ?_
    refine j_iadd (pc := 310) g dL_law_310 ?_
    refine j_sld (pc := 311) gl h3 dL_law_311 ?_
    refine j_callVi (pc := 312) (na := 3) (As := [.int (xs (i + 1).toNatClampNeg), .int (xs (i + 2).toNatClampNeg), .int (xs (i + 3).toNatClampNeg)]) (rest := []) (q0 := 2) (ci := 10) (w' := ((o, .inl (t 4, 1, .inr (.inl fo))) :: (od, .inl (t 5, 1, .inr (.inr (.inr (.inl fd))))) :: (mC am t σm1 ++ kW aa ad t σk1 []))) g (cX9_appoint_ (rs := (o, .inl (t 4, 1, .inr (.inl fo))) :: (od, .inl (t 5, 1, .inr (.inr (.inr (.inl fd))))) :: kW aa ad t σk1 []) hm) q_i_X9_appoint q_s_X9_appoint rfl rfl rfl q_c_X9_appoint q_l_L_154 q_n_X9 (by decide +kernel) rfl ⟨Nat.le_of_ble_eq_true rfl, Nat.le_of_ble_eq_true rfl⟩ ⟨hkk, hnn⟩ (Nat.le_of_ble_eq_true rfl) (lw_pm_m aa ad am t σk1 σm _ _) (lw_pm_m aa ad am t σk1 σm1 _ _).symm dL_law_312 ?_ rfl
    refine j_istore (L' := [(7, .int r), (6, .int 1), (5, .int i), (4, .ref od), (3, .ref o), (2, .ref (am 0)), (1, .ref (ad 0)), (0, .ref b)]) (pc := 315) g dL_law_315 (Nat.le_of_ble_eq_true rfl) rfl ?_
    refine j_aload_n (pc := 317) g 5 dL_law_317 rfl ?_
    refine j_callVi (pc := 318) (na := 0) (As := []) (rest := []) (q0 := 2) (ci := 10) (w' := ((o, .inl (t 4, 1, .inr (.inl fo))) :: (od, .inl (t 5, 1, .inr (.inr (.inr (.inl fd))))) :: (mC am t σm1 ++ kW aa ad t σk1 []))) g (cX9_thrown_ (rs := (o, .inl (t 4, 1, .inr (.inl fo))) :: (od, .inl (t 5, 1, .inr (.inr (.inr (.inl fd))))) :: kW aa ad t σk1 []) rfl) q_i_X9_thrown q_s_X9_thrown rfl rfl rfl q_c_X9_thrown q_l_L_155 q_n_X9 (by decide +kernel) rfl ⟨Nat.le_of_ble_eq_true rfl, Nat.le_of_ble_eq_true rfl⟩ ⟨hkk, hnn⟩ (Nat.le_of_ble_eq_true rfl) (lw_pm_m aa ad am t σk1 σm1 _ _) (lw_pm_m aa ad am t σk1 σm1 _ _).symm dL_law_318 ?_ rfl
    refine j_iload (pc := 321) g 1 dL_law_321 rfl ?_
    refine j_icmp_eq (tgt := 328) (pc := 323) g dL_law_323 (by decide) (fun _ => ?_) (fun h9 => absurd h0 h9)
    refine j_iload (pc := 328) g 1 dL_law_328 rfl ?_
    refine j_if_ne (tgt := 345) (pc := 330) g dL_law_330 (by decide) (fun _ => ?_) (fun h9 => absurd h9 (by decide))
    refine j_goto (tgt := 2781) (pc := 345) g dL_law_345 (by decide) ?_
    refine j_sub (pc := 2781) g [2, 3, 4, 5, 6, 7] rfl ?_
    exact j_widen g (by omega) (by omega) (next σk1 σm1 fo fd hR)
  · refine j_aload_n (pc := 268) g 4 dL_law_268 rfl ?_
    refine j_aload_n (pc := 269) g 5 dL_law_269 rfl ?_
    refine j_iload (pc := 270) g 0 dL_law_270 rfl ?_
    refine j_iconst (v := 1) (pc := 272) g dL_law_272 (by decide) ?_
    refine j_iadd (pc := 273) g dL_law_273 ?_
    refine j_sld (pc := 274) gl h1 dL_law_274 ?_
    refine j_aload_n (pc := 275) g 5 dL_law_275 rfl ?_
    refine j_iload (pc := 276) g 0 dL_law_276 rfl ?_
    refine j_iconst (v := 2) (pc := 278) g dL_law_278 (by decide) ?_
    refine j_iadd (pc := 279) g dL_law_279 ?_
    refine j_sld (pc := 280) gl h2 dL_law_280 ?_
    refine j_aload_n (pc := 281) g 5 dL_law_281 rfl ?_
    refine j_iload (pc := 282) g 0 dL_law_282 rfl ?_
    refine j_iconst (v := 3) (pc := 284) g dL_law_284 (by decide) ?_
    refine j_iadd (pc := 285) g dL_law_285 ?_
    refine j_sld (pc := 286) gl h3 dL_law_286 ?_
    refine j_aload_n (pc := 287) g 2 dL_law_287 rfl ?_
    refine j_callH (pc := 288) (na := 5) (As := [.ref (ad 0), .int (xs (i + 1).toNatClampNeg), .int (xs (i + 2).toNatClampNeg), .int (xs (i + 3).toNatClampNeg), .ref o]) (rest := []) (r := 2) (w' := ((o, .inl (t 4, 1, .inr (.inl fo))) :: (od, .inl (t 5, 1, .inr (.inr (.inr (.inl fd))))) :: (mC am t σm ++ kW aa ad t σk1 []))) g (hL_appoint_x2 (rs := (od, .inl (t 5, 1, .inr (.inr (.inr (.inl fd))))) :: mC am t σm) hst hf) q_t_L_appoint q_w_L_appoint q_l_L_149 q_n_L (by decide) (by decide +kernel) rfl ⟨Nat.le_of_ble_eq_true rfl, Nat.le_of_ble_eq_true rfl⟩ ⟨by omega, by omega⟩ (Nat.le_of_ble_eq_true rfl) (lw_pm_h aa ad am t σk σm _ _) (lw_pm_h aa ad am t σk1 σm _ _).symm dL_law_288 ?_ rfl
    have hkk : k + 1 ≤ room_1.cells := by omega
    have hnn : n + 6 ≤ room_1.slots := by omega
    refine j_istore (L' := [(6, .int 2), (5, .int i), (4, .ref od), (3, .ref o), (2, .ref (am 0)), (1, .ref (ad 0)), (0, .ref b)]) (pc := 291) g dL_law_291 (Nat.le_of_ble_eq_true rfl) rfl ?_
    refine j_aload_n (pc := 293) g 4 dL_law_293 rfl ?_
    refine j_aload_n (pc := 294) g 6 dL_law_294 rfl ?_
    refine j_iload (pc := 295) g 1 dL_law_295 rfl ?_
    refine j_iconst (v := 1) (pc := 297) g dL_law_297 (by decide) ?_
    refine j_iadd (pc := 298) g dL_law_298 ?_
    refine j_sld (pc := 299) gl h1 dL_law_299 ?_
    refine j_aload_n (pc := 300) g 6 dL_law_300 rfl ?_
    refine j_iload (pc := 301) g 1 dL_law_301 rfl ?_
    refine j_iconst (v := 2) (pc := 303) g dL_law_303 (by decide) ?_
    refine j_iadd (pc := 304) g dL_law_304 ?_
    refine j_sld (pc := 305) gl h2 dL_law_305 ?_
    refine j_aload_n (pc := 306) g 6 dL_law_306 rfl ?_
    refine j_iload (pc := 307) g 1 dL_law_307 rfl ?_
    refine j_iconst (v := 3) (pc := 309) g dL_law_309 (by decide) ?_
    refine j_iadd (pc := 310) g dL_law_310 ?_
    refine j_sld (pc := 311) gl h3 dL_law_311 ?_
    refine j_callVi (pc := 312) (na := 3) (As := [.int (xs (i + 1).toNatClampNeg), .int (xs (i + 2).toNatClampNeg), .int (xs (i + 3).toNatClampNeg)]) (rest := []) (q0 := 2) (ci := 10) (w' := ((o, .inl (t 4, 1, .inr (.inl fo))) :: (od, .inl (t 5, 1, .inr (.inr (.inr (.inl fd))))) :: (mC am t σm1 ++ kW aa ad t σk1 []))) g (cX9_appoint_ (rs := (o, .inl (t 4, 1, .inr (.inl fo))) :: (od, .inl (t 5, 1, .inr (.inr (.inr (.inl fd))))) :: kW aa ad t σk1 []) hm) q_i_X9_appoint q_s_X9_appoint rfl rfl rfl q_c_X9_appoint q_l_L_154 q_n_X9 (by decide +kernel) rfl ⟨Nat.le_of_ble_eq_true rfl, Nat.le_of_ble_eq_true rfl⟩ ⟨hkk, hnn⟩ (Nat.le_of_ble_eq_true rfl) (lw_pm_m aa ad am t σk1 σm _ _) (lw_pm_m aa ad am t σk1 σm1 _ _).symm dL_law_312 ?_ rfl
    refine j_istore (L' := [(7, .int r), (6, .int 2), (5, .int i), (4, .ref od), (3, .ref o), (2, .ref (am 0)), (1, .ref (ad 0)), (0, .ref b)]) (pc := 315) g dL_law_315 (Nat.le_of_ble_eq_true rfl) rfl ?_
    refine j_aload_n (pc := 317) g 5 dL_law_317 rfl ?_
    refine j_callVi (pc := 318) (na := 0) (As := []) (rest := []) (q0 := 2) (ci := 10) (w' := ((o, .inl (t 4, 1, .inr (.inl fo))) :: (od, .inl (t 5, 1, .inr (.inr (.inr (.inl fd))))) :: (mC am t σm1 ++ kW aa ad t σk1 []))) g (cX9_thrown_ (rs := (o, .inl (t 4, 1, .inr (.inl fo))) :: (od, .inl (t 5, 1, .inr (.inr (.inr (.inl fd))))) :: kW aa ad t σk1 []) rfl) q_i_X9_thrown q_s_X9_thrown rfl rfl rfl q_c_X9_thrown q_l_L_155 q_n_X9 (by decide +kernel) rfl ⟨Nat.le_of_ble_eq_true rfl, Nat.le_of_ble_eq_true rfl⟩ ⟨hkk, hnn⟩ (Nat.le_of_ble_eq_true rfl) (lw_pm_m aa ad am t σk1 σm1 _ _) (lw_pm_m aa ad am t σk1 σm1 _ _).symm dL_law_318 ?_ rfl
    refine j_iload (pc := 321) g 1 dL_law_321 rfl ?_
    refine j_icmp_eq (tgt := 328) (pc := 323) g dL_law_323 (by decide) (fun _ => ?_) (fun h9 => absurd h0 h9)
    refine j_iload (pc := 328) g 1 dL_law_328 rfl ?_
    refine j_if_ne (tgt := 345) (pc := 330) g dL_law_330 (by decide) (fun _ => ?_) (fun h9 => absurd h9 (by decide))
    refine j_goto (tgt := 2781) (pc := 345) g dL_law_345 (by decide) ?_
    refine j_sub (pc := 2781) g [2, 3, 4, 5, 6, 7] rfl ?_
    exact j_widen g (by omega) (by omega) (next σk1 σm1 fo fd hR)
  · refine j_aload_n (pc := 268) g 4 dL_law_268 rfl ?_
    refine j_aload_n (pc := 269) g 5 dL_law_269 rfl ?_
    refine j_iload (pc := 270) g 0 dL_law_270 rfl ?_
    refine j_iconst (v := 1) (pc := 272) g dL_law_272 (by decide) ?_
    refine j_iadd (pc := 273) g dL_law_273 ?_
    refine j_sld (pc := 274) gl h1 dL_law_274 ?_
    refine j_aload_n (pc := 275) g 5 dL_law_275 rfl ?_
    refine j_iload (pc := 276) g 0 dL_law_276 rfl ?_
    refine j_iconst (v := 2) (pc := 278) g dL_law_278 (by decide) ?_
    refine j_iadd (pc := 279) g dL_law_279 ?_
    refine j_sld (pc := 280) gl h2 dL_law_280 ?_
    refine j_aload_n (pc := 281) g 5 dL_law_281 rfl ?_
    refine j_iload (pc := 282) g 0 dL_law_282 rfl ?_
    refine j_iconst (v := 3) (pc := 284) g dL_law_284 (by decide) ?_
    refine j_iadd (pc := 285) g dL_law_285 ?_
    refine j_sld (pc := 286) gl h3 dL_law_286 ?_
    refine j_aload_n (pc := 287) g 2 dL_law_287 rfl ?_
    refine j_callH (pc := 288) (na := 5) (As := [.ref (ad 0), .int (xs (i + 1).toNatClampNeg), .int (xs (i + 2).toNatClampNeg), .int (xs (i + 3).toNatClampNeg), .ref o]) (rest := []) (r := 3) (w' := ((o, .inl (t 4, 1, .inr (.inl fo))) :: (od, .inl (t 5, 1, .inr (.inr (.inr (.inl fd))))) :: (mC am t σm ++ kW aa ad t σk1 []))) g (hL_appoint_x3 (rs := (od, .inl (t 5, 1, .inr (.inr (.inr (.inl fd))))) :: mC am t σm) hst hf) q_t_L_appoint q_w_L_appoint q_l_L_149 q_n_L (by decide) (by decide +kernel) rfl ⟨Nat.le_of_ble_eq_true rfl, Nat.le_of_ble_eq_true rfl⟩ ⟨by omega, by omega⟩ (Nat.le_of_ble_eq_true rfl) (lw_pm_h aa ad am t σk σm _ _) (lw_pm_h aa ad am t σk1 σm _ _).symm dL_law_288 ?_ rfl
    have hkk : k + 1 ≤ room_1.cells := by omega
    have hnn : n + 6 ≤ room_1.slots := by omega
    refine j_istore (L' := [(6, .int 3), (5, .int i), (4, .ref od), (3, .ref o), (2, .ref (am 0)), (1, .ref (ad 0)), (0, .ref b)]) (pc := 291) g dL_law_291 (Nat.le_of_ble_eq_true rfl) rfl ?_
    refine j_aload_n (pc := 293) g 4 dL_law_293 rfl ?_
    refine j_aload_n (pc := 294) g 6 dL_law_294 rfl ?_
    refine j_iload (pc := 295) g 1 dL_law_295 rfl ?_
    refine j_iconst (v := 1) (pc := 297) g dL_law_297 (by decide) ?_
    refine j_iadd (pc := 298) g dL_law_298 ?_
    refine j_sld (pc := 299) gl h1 dL_law_299 ?_
    refine j_aload_n (pc := 300) g 6 dL_law_300 rfl ?_
    refine j_iload (pc := 301) g 1 dL_law_301 rfl ?_
    refine j_iconst (v := 2) (pc := 303) g dL_law_303 (by decide) ?_
    refine j_iadd (pc := 304) g dL_law_304 ?_
    refine j_sld (pc := 305) gl h2 dL_law_305 ?_
    refine j_aload_n (pc := 306) g 6 dL_law_306 rfl ?_
    refine j_iload (pc := 307) g 1 dL_law_307 rfl ?_
    refine j_iconst (v := 3) (pc := 309) g dL_law_309 (by decide) ?_
    refine j_iadd (pc := 310) g dL_law_310 ?_
    refine j_sld (pc := 311) gl h3 dL_law_311 ?_
    refine j_callVi (pc := 312) (na := 3) (As := [.int (xs (i + 1).toNatClampNeg), .int (xs (i + 2).toNatClampNeg), .int (xs (i + 3).toNatClampNeg)]) (rest := []) (q0 := 2) (ci := 10) (w' := ((o, .inl (t 4, 1, .inr (.inl fo))) :: (od, .inl (t 5, 1, .inr (.inr (.inr (.inl fd))))) :: (mC am t σm1 ++ kW aa ad t σk1 []))) g (cX9_appoint_ (rs := (o, .inl (t 4, 1, .inr (.inl fo))) :: (od, .inl (t 5, 1, .inr (.inr (.inr (.inl fd))))) :: kW aa ad t σk1 []) hm) q_i_X9_appoint q_s_X9_appoint rfl rfl rfl q_c_X9_appoint q_l_L_154 q_n_X9 (by decide +kernel) rfl ⟨Nat.le_of_ble_eq_true rfl, Nat.le_of_ble_eq_true rfl⟩ ⟨hkk, hnn⟩ (Nat.le_of_ble_eq_true rfl) (lw_pm_m aa ad am t σk1 σm _ _) (lw_pm_m aa ad am t σk1 σm1 _ _).symm dL_law_312 ?_ rfl
    refine j_istore (L' := [(7, .int r), (6, .int 3), (5, .int i), (4, .ref od), (3, .ref o), (2, .ref (am 0)), (1, .ref (ad 0)), (0, .ref b)]) (pc := 315) g dL_law_315 (Nat.le_of_ble_eq_true rfl) rfl ?_
    refine j_aload_n (pc := 317) g 5 dL_law_317 rfl ?_
    refine j_callVi (pc := 318) (na := 0) (As := []) (rest := []) (q0 := 2) (ci := 10) (w' := ((o, .inl (t 4, 1, .inr (.inl fo))) :: (od, .inl (t 5, 1, .inr (.inr (.inr (.inl fd))))) :: (mC am t σm1 ++ kW aa ad t σk1 []))) g (cX9_thrown_ (rs := (o, .inl (t 4, 1, .inr (.inl fo))) :: (od, .inl (t 5, 1, .inr (.inr (.inr (.inl fd))))) :: kW aa ad t σk1 []) rfl) q_i_X9_thrown q_s_X9_thrown rfl rfl rfl q_c_X9_thrown q_l_L_155 q_n_X9 (by decide +kernel) rfl ⟨Nat.le_of_ble_eq_true rfl, Nat.le_of_ble_eq_true rfl⟩ ⟨hkk, hnn⟩ (Nat.le_of_ble_eq_true rfl) (lw_pm_m aa ad am t σk1 σm1 _ _) (lw_pm_m aa ad am t σk1 σm1 _ _).symm dL_law_318 ?_ rfl
    refine j_iload (pc := 321) g 1 dL_law_321 rfl ?_
    refine j_icmp_eq (tgt := 328) (pc := 323) g dL_law_323 (by decide) (fun _ => ?_) (fun h9 => absurd h0 h9)
    refine j_iload (pc := 328) g 1 dL_law_328 rfl ?_
    refine j_if_ne (tgt := 345) (pc := 330) g dL_law_330 (by decide) (fun _ => ?_) (fun h9 => absurd h9 (by decide))
    refine j_goto (tgt := 2781) (pc := 345) g dL_law_345 (by decide) ?_
    refine j_sub (pc := 2781) g [2, 3, 4, 5, 6, 7] rfl ?_
    exact j_widen g (by omega) (by omega) (next σk1 σm1 fo fd hR)
set_option maxRecDepth 100000 in
set_option maxHeartbeats 4000000 in
theorem lw_c1 {D : va_G} {t : Nat → ClassId} {aa : gx_AA} {l : Launch} {J : gx_J} {b Ln : Nat} {xs : Nat → Int32} (gl : gx_GL D t (gx_E0 aa) l room_1 cL_law RL 10 J b Ln xs) (hst : l.stackTraces = false) {k n : Nat} (hk : k + 1 ≤ room_1.cells) (hn : n + 6 ≤ room_1.slots) {i : Int32} (h1 : vp_in (i + 1) Ln) (h2 : vp_in (i + 2) Ln) (h3 : vp_in (i + 3) Ln) {ad am : Nat → Nat} {o od : Nat} {σk : CS} {σm : OS} {fo : Nat → Int64} {fd : Nat → UInt64} {R : CS → OS → Prop} (hag : Ag_promote R σk σm (xs (i + 1).toNatClampNeg)) (next : ∀ (σk2 : CS) (σm2 : OS) (fo2 : Nat → Int64) (fd2 : Nat → UInt64), R σk2 σm2 → J (k + 1) (n + 6) ((o, .inl (t 4, 1, .inr (.inl fo2))) :: (od, .inl (t 5, 1, .inr (.inr (.inr (.inl fd2))))) :: (mC am t σm2 ++ kW aa ad t σk2 [])) 2781 [(5, .int i), (4, .ref od), (3, .ref o), (2, .ref (am 0)), (1, .ref (ad 0)), (0, .ref b)] []) : J k n ((o, .inl (t 4, 1, .inr (.inl fo))) :: (od, .inl (t 5, 1, .inr (.inr (.inr (.inl fd))))) :: (mC am t σm ++ kW aa ad t σk [])) 348 [(5, .int i), (4, .ref od), (3, .ref o), (2, .ref (am 0)), (1, .ref (ad 0)), (0, .ref b)] [] := by
  have g := gl.g
  have hkk : k ≤ room_1.cells := by omega
  have hnn : n ≤ room_1.slots := by omega
  obtain ⟨r, σm1, hm, hag⟩ := hag
  rcases hag with ⟨σk1, hf, h0, hR⟩ | ⟨σk1, hf, h0, hR⟩ | ⟨σk1, hf, h0, hR⟩
  · refine j_aload_n (pc := 348) g 4 dL_law_348 rfl ?_
    refine j_aload_n (pc := 349) g 5 dL_law_349 rfl ?_
    refine j_iload (pc := 350) g 0 dL_law_350 rfl ?_
    refine j_iconst (v := 1) (pc := 352) g dL_law_352 (by decide) ?_
    refine j_iadd (pc := 353) g dL_law_353 ?_
    refine j_sld (pc := 354) gl h1 dL_law_354 ?_
    refine j_aload_n (pc := 355) g 2 dL_law_355 rfl ?_
    refine j_callH (pc := 356) (na := 3) (As := [.ref (ad 0), .int (xs (i + 1).toNatClampNeg), .ref o]) (rest := []) (r := 0) (w' := ((o, .inl (t 4, 1, .inr (.inl (vp_updL fo (0 : Int32).toNatClampNeg r.toInt64)))) :: (od, .inl (t 5, 1, .inr (.inr (.inr (.inl fd))))) :: (mC am t σm ++ kW aa ad t σk1 []))) g (hL_promote_ok (rs := (od, .inl (t 5, 1, .inr (.inr (.inr (.inl fd))))) :: mC am t σm) hst hf) q_t_L_promote q_w_L_promote q_l_L_158 q_n_L (by decide) (by decide +kernel) rfl ⟨Nat.le_of_ble_eq_true rfl, Nat.le_of_ble_eq_true rfl⟩ ⟨by omega, by omega⟩ (Nat.le_of_ble_eq_true rfl) (lw_pm_h aa ad am t σk σm _ _) (lw_pm_h aa ad am t σk1 σm _ _).symm dL_law_356 ?_ rfl
    have hkk : k + 0 ≤ room_1.cells := by omega
    have hnn : n + 0 ≤ room_1.slots := by omega
    refine j_istore (L' := [(6, .int 0), (5, .int i), (4, .ref od), (3, .ref o), (2, .ref (am 0)), (1, .ref (ad 0)), (0, .ref b)]) (pc := 359) g dL_law_359 (Nat.le_of_ble_eq_true rfl) rfl ?_
    refine j_aload_n (pc := 361) g 4 dL_law_361 rfl ?_
    refine j_aload_n (pc := 362) g 6 dL_law_362 rfl ?_
    refine j_iload (pc := 363) g 1 dL_law_363 rfl ?_
    refine j_iconst (v := 1) (pc := 365) g dL_law_365 (by decide) ?_
    refine j_iadd (pc := 366) g dL_law_366 ?_
    refine j_sld (pc := 367) gl h1 dL_law_367 ?_
    refine j_callVi (pc := 368) (na := 1) (As := [.int (xs (i + 1).toNatClampNeg)]) (rest := []) (q0 := 2) (ci := 10) (w' := ((o, .inl (t 4, 1, .inr (.inl (vp_updL fo (0 : Int32).toNatClampNeg r.toInt64)))) :: (od, .inl (t 5, 1, .inr (.inr (.inr (.inl fd))))) :: (mC am t σm1 ++ kW aa ad t σk1 []))) g (cX9_promote_ (rs := (o, .inl (t 4, 1, .inr (.inl (vp_updL fo (0 : Int32).toNatClampNeg r.toInt64)))) :: (od, .inl (t 5, 1, .inr (.inr (.inr (.inl fd))))) :: kW aa ad t σk1 []) hm) q_i_X9_promote q_s_X9_promote rfl rfl rfl q_c_X9_promote q_l_L_161 q_n_X9 (by decide +kernel) rfl ⟨Nat.le_of_ble_eq_true rfl, Nat.le_of_ble_eq_true rfl⟩ ⟨hkk, hnn⟩ (Nat.le_of_ble_eq_true rfl) (lw_pm_m aa ad am t σk1 σm _ _) (lw_pm_m aa ad am t σk1 σm1 _ _).symm dL_law_368 ?_ rfl
    refine j_istore (L' := [(7, .int r), (6, .int 0), (5, .int i), (4, .ref od), (3, .ref o), (2, .ref (am 0)), (1, .ref (ad 0)), (0, .ref b)]) (pc := 371) g dL_law_371 (Nat.le_of_ble_eq_true rfl) rfl ?_
    refine j_aload_n (pc := 373) g 5 dL_law_373 rfl ?_
    refine j_callVi (pc := 374) (na := 0) (As := []) (rest := []) (q0 := 2) (ci := 10) (w' := ((o, .inl (t 4, 1, .inr (.inl (vp_updL fo (0 : Int32).toNatClampNeg r.toInt64)))) :: (od, .inl (t 5, 1, .inr (.inr (.inr (.inl fd))))) :: (mC am t σm1 ++ kW aa ad t σk1 []))) g (cX9_thrown_ (rs := (o, .inl (t 4, 1, .inr (.inl (vp_updL fo (0 : Int32).toNatClampNeg r.toInt64)))) :: (od, .inl (t 5, 1, .inr (.inr (.inr (.inl fd))))) :: kW aa ad t σk1 []) rfl) q_i_X9_thrown q_s_X9_thrown rfl rfl rfl q_c_X9_thrown q_l_L_155 q_n_X9 (by decide +kernel) rfl ⟨Nat.le_of_ble_eq_true rfl, Nat.le_of_ble_eq_true rfl⟩ ⟨hkk, hnn⟩ (Nat.le_of_ble_eq_true rfl) (lw_pm_m aa ad am t σk1 σm1 _ _) (lw_pm_m aa ad am t σk1 σm1 _ _).symm dL_law_374 ?_ rfl
    refine j_iload (pc := 377) g 1 dL_law_377 rfl ?_
    refine j_icmp_eq (tgt := 384) (pc := 379) g dL_law_379 (by decide) (fun _ => ?_) (fun h9 => absurd h0 h9)
    refine j_iload (pc := 384) g 1 dL_law_384 rfl ?_
    refine j_if_ne (tgt := 401) (pc := 386) g dL_law_386 (by decide) (fun h9 => absurd rfl h9) (fun _ => ?_)
    refine j_aload_n (pc := 389) g 4 dL_law_389 rfl ?_
    refine j_iconst (v := 0) (pc := 390) g dL_law_390 (by decide) ?_
    refine j_lald (pc := 391) g 0 rfl (show gx_in (0 : Int32) 1 by decide) dL_law_391 ?_
    refine j_iload (pc := 392) g 0 dL_law_392 rfl ?_
    refine j_i2l (pc := 394) g dL_law_394 ?_
    refine j_lcmp (pc := 395) g dL_law_395 ?_
    refine j_if_eq (tgt := 401) (pc := 396) g dL_law_396 (by decide) (fun _ => ?_) (fun h9 => absurd (lw_cmp0 _) h9)
    refine j_goto (tgt := 2781) (pc := 401) g dL_law_401 (by decide) ?_
    refine j_sub (pc := 2781) g [2, 3, 4, 5, 6, 7] rfl ?_
    exact j_widen g (by omega) (by omega) (next σk1 σm1 (vp_updL fo (0 : Int32).toNatClampNeg r.toInt64) fd hR)
  · refine j_aload_n (pc := 348) g 4 dL_law_348 rfl ?_
    refine j_aload_n (pc := 349) g 5 dL_law_349 rfl ?_
    refine j_iload (pc := 350) g 0 dL_law_350 rfl ?_
    refine j_iconst (v := 1) (pc := 352) g dL_law_352 (by decide) ?_
    refine j_iadd (pc := 353) g dL_law_353 ?_
    refine j_sld (pc := 354) gl h1 dL_law_354 ?_
    refine j_aload_n (pc := 355) g 2 dL_law_355 rfl ?_
    refine j_callH (pc := 356) (na := 3) (As := [.ref (ad 0), .int (xs (i + 1).toNatClampNeg), .ref o]) (rest := []) (r := 1) (w' := ((o, .inl (t 4, 1, .inr (.inl fo))) :: (od, .inl (t 5, 1, .inr (.inr (.inr (.inl fd))))) :: (mC am t σm ++ kW aa ad t σk1 []))) g (hL_promote_x1 (rs := (od, .inl (t 5, 1, .inr (.inr (.inr (.inl fd))))) :: mC am t σm) hst hf) q_t_L_promote q_w_L_promote q_l_L_158 q_n_L (by decide) (by decide +kernel) rfl ⟨Nat.le_of_ble_eq_true rfl, Nat.le_of_ble_eq_true rfl⟩ ⟨by omega, by omega⟩ (Nat.le_of_ble_eq_true rfl) (lw_pm_h aa ad am t σk σm _ _) (lw_pm_h aa ad am t σk1 σm _ _).symm dL_law_356 ?_ rfl
    have hkk : k + 1 ≤ room_1.cells := by omega
    have hnn : n + 6 ≤ room_1.slots := by omega
    refine j_istore (L' := [(6, .int 1), (5, .int i), (4, .ref od), (3, .ref o), (2, .ref (am 0)), (1, .ref (ad 0)), (0, .ref b)]) (pc := 359) g dL_law_359 (Nat.le_of_ble_eq_true rfl) rfl ?_
    refine j_aload_n (pc := 361) g 4 dL_law_361 rfl ?_
    refine j_aload_n (pc := 362) g 6 dL_law_362 rfl ?_
    refine j_iload (pc := 363) g 1 dL_law_363 rfl ?_
    refine j_iconst (v := 1) (pc := 365) g dL_law_365 (by decide) ?_
    refine j_iadd (pc := 366) g dL_law_366 ?_
    refine j_sld (pc := 367) gl h1 dL_law_367 ?_
    refine j_callVi (pc := 368) (na := 1) (As := [.int (xs (i + 1).toNatClampNeg)]) (rest := []) (q0 := 2) (ci := 10) (w' := ((o, .inl (t 4, 1, .inr (.inl fo))) :: (od, .inl (t 5, 1, .inr (.inr (.inr (.inl fd))))) :: (mC am t σm1 ++ kW aa ad t σk1 []))) g (cX9_promote_ (rs := (o, .inl (t 4, 1, .inr (.inl fo))) :: (od, .inl (t 5, 1, .inr (.inr (.inr (.inl fd))))) :: kW aa ad t σk1 []) hm) q_i_X9_promote q_s_X9_promote rfl rfl rfl q_c_X9_promote q_l_L_161 q_n_X9 (by decide +kernel) rfl ⟨Nat.le_of_ble_eq_true rfl, Nat.le_of_ble_eq_true rfl⟩ ⟨hkk, hnn⟩ (Nat.le_of_ble_eq_true rfl) (lw_pm_m aa ad am t σk1 σm _ _) (lw_pm_m aa ad am t σk1 σm1 _ _).symm dL_law_368 ?_ rfl
    refine j_istore (L' := [(7, .int r), (6, .int 1), (5, .int i), (4, .ref od), (3, .ref o), (2, .ref (am 0)), (1, .ref (ad 0)), (0, .ref b)]) (pc := 371) g dL_law_371 (Nat.le_of_ble_eq_true rfl) rfl ?_
    refine j_aload_n (pc := 373) g 5 dL_law_373 rfl ?_
    refine j_callVi (pc := 374) (na := 0) (As := []) (rest := []) (q0 := 2) (ci := 10) (w' := ((o, .inl (t 4, 1, .inr (.inl fo))) :: (od, .inl (t 5, 1, .inr (.inr (.inr (.inl fd))))) :: (mC am t σm1 ++ kW aa ad t σk1 []))) g (cX9_thrown_ (rs := (o, .inl (t 4, 1, .inr (.inl fo))) :: (od, .inl (t 5, 1, .inr (.inr (.inr (.inl fd))))) :: kW aa ad t σk1 []) rfl) q_i_X9_thrown q_s_X9_thrown rfl rfl rfl q_c_X9_thrown q_l_L_155 q_n_X9 (by decide +kernel) rfl ⟨Nat.le_of_ble_eq_true rfl, Nat.le_of_ble_eq_true rfl⟩ ⟨hkk, hnn⟩ (Nat.le_of_ble_eq_true rfl) (lw_pm_m aa ad am t σk1 σm1 _ _) (lw_pm_m aa ad am t σk1 σm1 _ _).symm dL_law_374 ?_ rfl
    refine j_iload (pc := 377) g 1 dL_law_377 rfl ?_
    refine j_icmp_eq (tgt := 384) (pc := 379) g dL_law_379 (by decide) (fun _ => ?_) (fun h9 => absurd h0 h9)
    refine j_iload (pc := 384) g 1 dL_law_384 rfl ?_
    refine j_if_ne (tgt := 401) (pc := 386) g dL_law_386 (by decide) (fun _ => ?_) (fun h9 => absurd h9 (by decide))
    refine j_goto (tgt := 2781) (pc := 401) g dL_law_401 (by decide) ?_
    refine j_sub (pc := 2781) g [2, 3, 4, 5, 6, 7] rfl ?_
    exact j_widen g (by omega) (by omega) (next σk1 σm1 fo fd hR)
  · refine j_aload_n (pc := 348) g 4 dL_law_348 rfl ?_
    refine j_aload_n (pc := 349) g 5 dL_law_349 rfl ?_
    refine j_iload (pc := 350) g 0 dL_law_350 rfl ?_
    refine j_iconst (v := 1) (pc := 352) g dL_law_352 (by decide) ?_
    refine j_iadd (pc := 353) g dL_law_353 ?_
    refine j_sld (pc := 354) gl h1 dL_law_354 ?_
    refine j_aload_n (pc := 355) g 2 dL_law_355 rfl ?_
    refine j_callH (pc := 356) (na := 3) (As := [.ref (ad 0), .int (xs (i + 1).toNatClampNeg), .ref o]) (rest := []) (r := 2) (w' := ((o, .inl (t 4, 1, .inr (.inl fo))) :: (od, .inl (t 5, 1, .inr (.inr (.inr (.inl fd))))) :: (mC am t σm ++ kW aa ad t σk1 []))) g (hL_promote_x2 (rs := (od, .inl (t 5, 1, .inr (.inr (.inr (.inl fd))))) :: mC am t σm) hst hf) q_t_L_promote q_w_L_promote q_l_L_158 q_n_L (by decide) (by decide +kernel) rfl ⟨Nat.le_of_ble_eq_true rfl, Nat.le_of_ble_eq_true rfl⟩ ⟨by omega, by omega⟩ (Nat.le_of_ble_eq_true rfl) (lw_pm_h aa ad am t σk σm _ _) (lw_pm_h aa ad am t σk1 σm _ _).symm dL_law_356 ?_ rfl
    have hkk : k + 1 ≤ room_1.cells := by omega
    have hnn : n + 6 ≤ room_1.slots := by omega
    refine j_istore (L' := [(6, .int 2), (5, .int i), (4, .ref od), (3, .ref o), (2, .ref (am 0)), (1, .ref (ad 0)), (0, .ref b)]) (pc := 359) g dL_law_359 (Nat.le_of_ble_eq_true rfl) rfl ?_
    refine j_aload_n (pc := 361) g 4 dL_law_361 rfl ?_
    refine j_aload_n (pc := 362) g 6 dL_law_362 rfl ?_
    refine j_iload (pc := 363) g 1 dL_law_363 rfl ?_
    refine j_iconst (v := 1) (pc := 365) g dL_law_365 (by decide) ?_
    refine j_iadd (pc := 366) g dL_law_366 ?_
    refine j_sld (pc := 367) gl h1 dL_law_367 ?_
    refine j_callVi (pc := 368) (na := 1) (As := [.int (xs (i + 1).toNatClampNeg)]) (rest := []) (q0 := 2) (ci := 10) (w' := ((o, .inl (t 4, 1, .inr (.inl fo))) :: (od, .inl (t 5, 1, .inr (.inr (.inr (.inl fd))))) :: (mC am t σm1 ++ kW aa ad t σk1 []))) g (cX9_promote_ (rs := (o, .inl (t 4, 1, .inr (.inl fo))) :: (od, .inl (t 5, 1, .inr (.inr (.inr (.inl fd))))) :: kW aa ad t σk1 []) hm) q_i_X9_promote q_s_X9_promote rfl rfl rfl q_c_X9_promote q_l_L_161 q_n_X9 (by decide +kernel) rfl ⟨Nat.le_of_ble_eq_true rfl, Nat.le_of_ble_eq_true rfl⟩ ⟨hkk, hnn⟩ (Nat.le_of_ble_eq_true rfl) (lw_pm_m aa ad am t σk1 σm _ _) (lw_pm_m aa ad am t σk1 σm1 _ _).symm dL_law_368 ?_ rfl
    refine j_istore (L' := [(7, .int r), (6, .int 2), (5, .int i), (4, .ref od), (3, .ref o), (2, .ref (am 0)), (1, .ref (ad 0)), (0, .ref b)]) (pc := 371) g dL_law_371 (Nat.le_of_ble_eq_true rfl) rfl ?_
    refine j_aload_n (pc := 373) g 5 dL_law_373 rfl ?_
    refine j_callVi (pc := 374) (na := 0) (As := []) (rest := []) (q0 := 2) (ci := 10) (w' := ((o, .inl (t 4, 1, .inr (.inl fo))) :: (od, .inl (t 5, 1, .inr (.inr (.inr (.inl fd))))) :: (mC am t σm1 ++ kW aa ad t σk1 []))) g (cX9_thrown_ (rs := (o, .inl (t 4, 1, .inr (.inl fo))) :: (od, .inl (t 5, 1, .inr (.inr (.inr (.inl fd))))) :: kW aa ad t σk1 []) rfl) q_i_X9_thrown q_s_X9_thrown rfl rfl rfl q_c_X9_thrown q_l_L_155 q_n_X9 (by decide +kernel) rfl ⟨Nat.le_of_ble_eq_true rfl, Nat.le_of_ble_eq_true rfl⟩ ⟨hkk, hnn⟩ (Nat.le_of_ble_eq_true rfl) (lw_pm_m aa ad am t σk1 σm1 _ _) (lw_pm_m aa ad am t σk1 σm1 _ _).symm dL_law_374 ?_ rfl
    refine j_iload (pc := 377) g 1 dL_law_377 rfl ?_
    refine j_icmp_eq (tgt := 384) (pc := 379) g dL_law_379 (by decide) (fun _ => ?_) (fun h9 => absurd h0 h9)
    refine j_iload (pc := 384) g 1 dL_law_384 rfl ?_
    refine j_if_ne (tgt := 401) (pc := 386) g dL_law_386 (by decide) (fun _ => ?_) (fun h9 => absurd h9 (by decide))
    refine j_goto (tgt := 2781) (pc := 401) g dL_law_401 (by decide) ?_
    refine j_sub (pc := 2781) g [2, 3, 4, 5, 6, 7] rfl ?_
    exact j_widen g (by omega) (by omega) (next σk1 σm1 fo fd hR)
set_option maxRecDepth 100000 in
set_option maxHeartbeats 4000000 in
theorem lw_c2 {D : va_G} {t : Nat → ClassId} {aa : gx_AA} {l : Launch} {J : gx_J} {b Ln : Nat} {xs : Nat → Int32} (gl : gx_GL D t (gx_E0 aa) l room_1 cL_law RL 10 J b Ln xs) (hst : l.stackTraces = false) {k n : Nat} (hk : k + 1 ≤ room_1.cells) (hn : n + 6 ≤ room_1.slots) {i : Int32} (h1 : vp_in (i + 1) Ln) (h2 : vp_in (i + 2) Ln) (h3 : vp_in (i + 3) Ln) {ad am : Nat → Nat} {o od : Nat} {σk : CS} {σm : OS} {fo : Nat → Int64} {fd : Nat → UInt64} {R : CS → OS → Prop} (hag : Ag_transfer R σk σm (xs (i + 1).toNatClampNeg) (xs (i + 2).toNatClampNeg)) (next : ∀ (σk2 : CS) (σm2 : OS) (fo2 : Nat → Int64) (fd2 : Nat → UInt64), R σk2 σm2 → J (k + 1) (n + 6) ((o, .inl (t 4, 1, .inr (.inl fo2))) :: (od, .inl (t 5, 1, .inr (.inr (.inr (.inl fd2))))) :: (mC am t σm2 ++ kW aa ad t σk2 [])) 2781 [(5, .int i), (4, .ref od), (3, .ref o), (2, .ref (am 0)), (1, .ref (ad 0)), (0, .ref b)] []) : J k n ((o, .inl (t 4, 1, .inr (.inl fo))) :: (od, .inl (t 5, 1, .inr (.inr (.inr (.inl fd))))) :: (mC am t σm ++ kW aa ad t σk [])) 404 [(5, .int i), (4, .ref od), (3, .ref o), (2, .ref (am 0)), (1, .ref (ad 0)), (0, .ref b)] [] := by
  have g := gl.g
  have hkk : k ≤ room_1.cells := by omega
  have hnn : n ≤ room_1.slots := by omega
  obtain ⟨r, σm1, hm, hag⟩ := hag
  rcases hag with ⟨σk1, hf, h0, hR⟩ | ⟨σk1, hf, h0, hR⟩ | ⟨σk1, hf, h0, hR⟩ | ⟨σk1, hf, h0, hR⟩ | ⟨σk1, hf, h0, hR⟩
  · refine j_aload_n (pc := 404) g 4 dL_law_404 rfl ?_
    refine j_aload_n (pc := 405) g 5 dL_law_405 rfl ?_
    refine j_iload (pc := 406) g 0 dL_law_406 rfl ?_
    refine j_iconst (v := 1) (pc := 408) g dL_law_408 (by decide) ?_
    refine j_iadd (pc := 409) g dL_law_409 ?_
    refine j_sld (pc := 410) gl h1 dL_law_410 ?_
    refine j_aload_n (pc := 411) g 5 dL_law_411 rfl ?_
    refine j_iload (pc := 412) g 0 dL_law_412 rfl ?_
    refine j_iconst (v := 2) (pc := 414) g dL_law_414 (by decide) ?_
    refine j_iadd (pc := 415) g dL_law_415 ?_
    refine j_sld (pc := 416) gl h2 dL_law_416 ?_
    refine j_aload_n (pc := 417) g 2 dL_law_417 rfl ?_
    refine j_callH (pc := 418) (na := 4) (As := [.ref (ad 0), .int (xs (i + 1).toNatClampNeg), .int (xs (i + 2).toNatClampNeg), .ref o]) (rest := []) (r := 0) (w' := ((o, .inl (t 4, 1, .inr (.inl (vp_updL fo (0 : Int32).toNatClampNeg r.toInt64)))) :: (od, .inl (t 5, 1, .inr (.inr (.inr (.inl fd))))) :: (mC am t σm ++ kW aa ad t σk1 []))) g (hL_transfer_ok (rs := (od, .inl (t 5, 1, .inr (.inr (.inr (.inl fd))))) :: mC am t σm) hst hf) q_t_L_transfer q_w_L_transfer q_l_L_162 q_n_L (by decide) (by decide +kernel) rfl ⟨Nat.le_of_ble_eq_true rfl, Nat.le_of_ble_eq_true rfl⟩ ⟨by omega, by omega⟩ (Nat.le_of_ble_eq_true rfl) (lw_pm_h aa ad am t σk σm _ _) (lw_pm_h aa ad am t σk1 σm _ _).symm dL_law_418 ?_ rfl
    have hkk : k + 0 ≤ room_1.cells := by omega
    have hnn : n + 0 ≤ room_1.slots := by omega
    refine j_istore (L' := [(6, .int 0), (5, .int i), (4, .ref od), (3, .ref o), (2, .ref (am 0)), (1, .ref (ad 0)), (0, .ref b)]) (pc := 421) g dL_law_421 (Nat.le_of_ble_eq_true rfl) rfl ?_
    refine j_aload_n (pc := 423) g 4 dL_law_423 rfl ?_
    refine j_aload_n (pc := 424) g 6 dL_law_424 rfl ?_
    refine j_iload (pc := 425) g 1 dL_law_425 rfl ?_
    refine j_iconst (v := 1) (pc := 427) g dL_law_427 (by decide) ?_
    refine j_iadd (pc := 428) g dL_law_428 ?_
    refine j_sld (pc := 429) gl h1 dL_law_429 ?_
    refine j_aload_n (pc := 430) g 6 dL_law_430 rfl ?_
    refine j_iload (pc := 431) g 1 dL_law_431 rfl ?_
    refine j_iconst (v := 2) (pc := 433) g dL_law_433 (by decide) ?_
    refine j_iadd (pc := 434) g dL_law_434 ?_
    refine j_sld (pc := 435) gl h2 dL_law_435 ?_
    refine j_callVi (pc := 436) (na := 2) (As := [.int (xs (i + 1).toNatClampNeg), .int (xs (i + 2).toNatClampNeg)]) (rest := []) (q0 := 2) (ci := 10) (w' := ((o, .inl (t 4, 1, .inr (.inl (vp_updL fo (0 : Int32).toNatClampNeg r.toInt64)))) :: (od, .inl (t 5, 1, .inr (.inr (.inr (.inl fd))))) :: (mC am t σm1 ++ kW aa ad t σk1 []))) g (cX9_transfer_ (rs := (o, .inl (t 4, 1, .inr (.inl (vp_updL fo (0 : Int32).toNatClampNeg r.toInt64)))) :: (od, .inl (t 5, 1, .inr (.inr (.inr (.inl fd))))) :: kW aa ad t σk1 []) hm) q_i_X9_transfer q_s_X9_transfer rfl rfl rfl q_c_X9_transfer q_l_L_165 q_n_X9 (by decide +kernel) rfl ⟨Nat.le_of_ble_eq_true rfl, Nat.le_of_ble_eq_true rfl⟩ ⟨hkk, hnn⟩ (Nat.le_of_ble_eq_true rfl) (lw_pm_m aa ad am t σk1 σm _ _) (lw_pm_m aa ad am t σk1 σm1 _ _).symm dL_law_436 ?_ rfl
    refine j_istore (L' := [(7, .int r), (6, .int 0), (5, .int i), (4, .ref od), (3, .ref o), (2, .ref (am 0)), (1, .ref (ad 0)), (0, .ref b)]) (pc := 439) g dL_law_439 (Nat.le_of_ble_eq_true rfl) rfl ?_
    refine j_aload_n (pc := 441) g 5 dL_law_441 rfl ?_
    refine j_callVi (pc := 442) (na := 0) (As := []) (rest := []) (q0 := 2) (ci := 10) (w' := ((o, .inl (t 4, 1, .inr (.inl (vp_updL fo (0 : Int32).toNatClampNeg r.toInt64)))) :: (od, .inl (t 5, 1, .inr (.inr (.inr (.inl fd))))) :: (mC am t σm1 ++ kW aa ad t σk1 []))) g (cX9_thrown_ (rs := (o, .inl (t 4, 1, .inr (.inl (vp_updL fo (0 : Int32).toNatClampNeg r.toInt64)))) :: (od, .inl (t 5, 1, .inr (.inr (.inr (.inl fd))))) :: kW aa ad t σk1 []) rfl) q_i_X9_thrown q_s_X9_thrown rfl rfl rfl q_c_X9_thrown q_l_L_155 q_n_X9 (by decide +kernel) rfl ⟨Nat.le_of_ble_eq_true rfl, Nat.le_of_ble_eq_true rfl⟩ ⟨hkk, hnn⟩ (Nat.le_of_ble_eq_true rfl) (lw_pm_m aa ad am t σk1 σm1 _ _) (lw_pm_m aa ad am t σk1 σm1 _ _).symm dL_law_442 ?_ rfl
    refine j_iload (pc := 445) g 1 dL_law_445 rfl ?_
    refine j_icmp_eq (tgt := 452) (pc := 447) g dL_law_447 (by decide) (fun _ => ?_) (fun h9 => absurd h0 h9)
    refine j_iload (pc := 452) g 1 dL_law_452 rfl ?_
    refine j_if_ne (tgt := 469) (pc := 454) g dL_law_454 (by decide) (fun h9 => absurd rfl h9) (fun _ => ?_)
    refine j_aload_n (pc := 457) g 4 dL_law_457 rfl ?_
    refine j_iconst (v := 0) (pc := 458) g dL_law_458 (by decide) ?_
    refine j_lald (pc := 459) g 0 rfl (show gx_in (0 : Int32) 1 by decide) dL_law_459 ?_
    refine j_iload (pc := 460) g 0 dL_law_460 rfl ?_
    refine j_i2l (pc := 462) g dL_law_462 ?_
    refine j_lcmp (pc := 463) g dL_law_463 ?_
    refine j_if_eq (tgt := 469) (pc := 464) g dL_law_464 (by decide) (fun _ => ?_) (fun h9 => absurd (lw_cmp0 _) h9)
    refine j_goto (tgt := 2781) (pc := 469) g dL_law_469 (by decide) ?_
    refine j_sub (pc := 2781) g [2, 3, 4, 5, 6, 7] rfl ?_
    exact j_widen g (by omega) (by omega) (next σk1 σm1 (vp_updL fo (0 : Int32).toNatClampNeg r.toInt64) fd hR)
  · refine j_aload_n (pc := 404) g 4 dL_law_404 rfl ?_
    refine j_aload_n (pc := 405) g 5 dL_law_405 rfl ?_
    refine j_iload (pc := 406) g 0 dL_law_406 rfl ?_
    refine j_iconst (v := 1) (pc := 408) g dL_law_408 (by decide) ?_
    refine j_iadd (pc := 409) g dL_law_409 ?_
    refine j_sld (pc := 410) gl h1 dL_law_410 ?_
    refine j_aload_n (pc := 411) g 5 dL_law_411 rfl ?_
    refine j_iload (pc := 412) g 0 dL_law_412 rfl ?_
    refine j_iconst (v := 2) (pc := 414) g dL_law_414 (by decide) ?_
    refine j_iadd (pc := 415) g dL_law_415 ?_
    refine j_sld (pc := 416) gl h2 dL_law_416 ?_
    refine j_aload_n (pc := 417) g 2 dL_law_417 rfl ?_
    refine j_callH (pc := 418) (na := 4) (As := [.ref (ad 0), .int (xs (i + 1).toNatClampNeg), .int (xs (i + 2).toNatClampNeg), .ref o]) (rest := []) (r := 1) (w' := ((o, .inl (t 4, 1, .inr (.inl fo))) :: (od, .inl (t 5, 1, .inr (.inr (.inr (.inl fd))))) :: (mC am t σm ++ kW aa ad t σk1 []))) g (hL_transfer_x1 (rs := (od, .inl (t 5, 1, .inr (.inr (.inr (.inl fd))))) :: mC am t σm) hst hf) q_t_L_transfer q_w_L_transfer q_l_L_162 q_n_L (by decide) (by decide +kernel) rfl ⟨Nat.le_of_ble_eq_true rfl, Nat.le_of_ble_eq_true rfl⟩ ⟨by omega, by omega⟩ (Nat.le_of_ble_eq_true rfl) (lw_pm_h aa ad am t σk σm _ _) (lw_pm_h aa ad am t σk1 σm _ _).symm dL_law_418 ?_ rfl
    have hkk : k + 1 ≤ room_1.cells := by omega
    have hnn : n + 6 ≤ room_1.slots := by omega
    refine j_istore (L' := [(6, .int 1), (5, .int i), (4, .ref od), (3, .ref o), (2, .ref (am 0)), (1, .ref (ad 0)), (0, .ref b)]) (pc := 421) g dL_law_421 (Nat.le_of_ble_eq_true rfl) rfl ?_
    refine j_aload_n (pc := 423) g 4 dL_law_423 rfl ?_
    refine j_aload_n (pc := 424) g 6 dL_law_424 rfl ?_
    refine j_iload (pc := 425) g 1 dL_law_425 rfl ?_
    refine j_iconst (v := 1) (pc := 427) g dL_law_427 (by decide) ?_
    refine j_iadd (pc := 428) g dL_law_428 ?_
    refine j_sld (pc := 429) gl h1 dL_law_429 ?_
    refine j_aload_n (pc := 430) g 6 dL_law_430 rfl ?_
    refine j_iload (pc := 431) g 1 dL_law_431 rfl ?_
    refine j_iconst (v := 2) (pc := 433) g dL_law_433 (by decide) ?_
    refine j_iadd (pc := 434) g dL_law_434 ?_
    refine j_sld (pc := 435) gl h2 dL_law_435 ?_
    refine j_callVi (pc := 436) (na := 2) (As := [.int (xs (i + 1).toNatClampNeg), .int (xs (i + 2).toNatClampNeg)]) (rest := []) (q0 := 2) (ci := 10) (w' := ((o, .inl (t 4, 1, .inr (.inl fo))) :: (od, .inl (t 5, 1, .inr (.inr (.inr (.inl fd))))) :: (mC am t σm1 ++ kW aa ad t σk1 []))) g (cX9_transfer_ (rs := (o, .inl (t 4, 1, .inr (.inl fo))) :: (od, .inl (t 5, 1, .inr (.inr (.inr (.inl fd))))) :: kW aa ad t σk1 []) hm) q_i_X9_transfer q_s_X9_transfer rfl rfl rfl q_c_X9_transfer q_l_L_165 q_n_X9 (by decide +kernel) rfl ⟨Nat.le_of_ble_eq_true rfl, Nat.le_of_ble_eq_true rfl⟩ ⟨hkk, hnn⟩ (Nat.le_of_ble_eq_true rfl) (lw_pm_m aa ad am t σk1 σm _ _) (lw_pm_m aa ad am t σk1 σm1 _ _).symm dL_law_436 ?_ rfl
    refine j_istore (L' := [(7, .int r), (6, .int 1), (5, .int i), (4, .ref od), (3, .ref o), (2, .ref (am 0)), (1, .ref (ad 0)), (0, .ref b)]) (pc := 439) g dL_law_439 (Nat.le_of_ble_eq_true rfl) rfl ?_
    refine j_aload_n (pc := 441) g 5 dL_law_441 rfl ?_
    refine j_callVi (pc := 442) (na := 0) (As := []) (rest := []) (q0 := 2) (ci := 10) (w' := ((o, .inl (t 4, 1, .inr (.inl fo))) :: (od, .inl (t 5, 1, .inr (.inr (.inr (.inl fd))))) :: (mC am t σm1 ++ kW aa ad t σk1 []))) g (cX9_thrown_ (rs := (o, .inl (t 4, 1, .inr (.inl fo))) :: (od, .inl (t 5, 1, .inr (.inr (.inr (.inl fd))))) :: kW aa ad t σk1 []) rfl) q_i_X9_thrown q_s_X9_thrown rfl rfl rfl q_c_X9_thrown q_l_L_155 q_n_X9 (by decide +kernel) rfl ⟨Nat.le_of_ble_eq_true rfl, Nat.le_of_ble_eq_true rfl⟩ ⟨hkk, hnn⟩ (Nat.le_of_ble_eq_true rfl) (lw_pm_m aa ad am t σk1 σm1 _ _) (lw_pm_m aa ad am t σk1 σm1 _ _).symm dL_law_442 ?_ rfl
    refine j_iload (pc := 445) g 1 dL_law_445 rfl ?_
    refine j_icmp_eq (tgt := 452) (pc := 447) g dL_law_447 (by decide) (fun _ => ?_) (fun h9 => absurd h0 h9)
    refine j_iload (pc := 452) g 1 dL_law_452 rfl ?_
    refine j_if_ne (tgt := 469) (pc := 454) g dL_law_454 (by decide) (fun _ => ?_) (fun h9 => absurd h9 (by decide))
    refine j_goto (tgt := 2781) (pc := 469) g dL_law_469 (by decide) ?_
    refine j_sub (pc := 2781) g [2, 3, 4, 5, 6, 7] rfl ?_
    exact j_widen g (by omega) (by omega) (next σk1 σm1 fo fd hR)
  · refine j_aload_n (pc := 404) g 4 dL_law_404 rfl ?_
    refine j_aload_n (pc := 405) g 5 dL_law_405 rfl ?_
    refine j_iload (pc := 406) g 0 dL_law_406 rfl ?_
    refine j_iconst (v := 1) (pc := 408) g dL_law_408 (by decide) ?_
    refine j_iadd (pc := 409) g dL_law_409 ?_
    refine j_sld (pc := 410) gl h1 dL_law_410 ?_
    refine j_aload_n (pc := 411) g 5 dL_law_411 rfl ?_
    refine j_iload (pc := 412) g 0 dL_law_412 rfl ?_
    refine j_iconst (v := 2) (pc := 414) g dL_law_414 (by decide) ?_
    refine j_iadd (pc := 415) g dL_law_415 ?_
    refine j_sld (pc := 416) gl h2 dL_law_416 ?_
    refine j_aload_n (pc := 417) g 2 dL_law_417 rfl ?_
    refine j_callH (pc := 418) (na := 4) (As := [.ref (ad 0), .int (xs (i + 1).toNatClampNeg), .int (xs (i + 2).toNatClampNeg), .ref o]) (rest := []) (r := 2) (w' := ((o, .inl (t 4, 1, .inr (.inl fo))) :: (od, .inl (t 5, 1, .inr (.inr (.inr (.inl fd))))) :: (mC am t σm ++ kW aa ad t σk1 []))) g (hL_transfer_x2 (rs := (od, .inl (t 5, 1, .inr (.inr (.inr (.inl fd))))) :: mC am t σm) hst hf) q_t_L_transfer q_w_L_transfer q_l_L_162 q_n_L (by decide) (by decide +kernel) rfl ⟨Nat.le_of_ble_eq_true rfl, Nat.le_of_ble_eq_true rfl⟩ ⟨by omega, by omega⟩ (Nat.le_of_ble_eq_true rfl) (lw_pm_h aa ad am t σk σm _ _) (lw_pm_h aa ad am t σk1 σm _ _).symm dL_law_418 ?_ rfl
    have hkk : k + 1 ≤ room_1.cells := by omega
    have hnn : n + 6 ≤ room_1.slots := by omega
    refine j_istore (L' := [(6, .int 2), (5, .int i), (4, .ref od), (3, .ref o), (2, .ref (am 0)), (1, .ref (ad 0)), (0, .ref b)]) (pc := 421) g dL_law_421 (Nat.le_of_ble_eq_true rfl) rfl ?_
    refine j_aload_n (pc := 423) g 4 dL_law_423 rfl ?_
    refine j_aload_n (pc := 424) g 6 dL_law_424 rfl ?_
    refine j_iload (pc := 425) g 1 dL_law_425 rfl ?_
    refine j_iconst (v := 1) (pc := 427) g dL_law_427 (by decide) ?_
    refine j_iadd (pc := 428) g dL_law_428 ?_
    refine j_sld (pc := 429) gl h1 dL_law_429 ?_
    refine j_aload_n (pc := 430) g 6 dL_law_430 rfl ?_
    refine j_iload (pc := 431) g 1 dL_law_431 rfl ?_
    refine j_iconst (v := 2) (pc := 433) g dL_law_433 (by decide) ?_
    refine j_iadd (pc := 434) g dL_law_434 ?_
    refine j_sld (pc := 435) gl h2 dL_law_435 ?_
    refine j_callVi (pc := 436) (na := 2) (As := [.int (xs (i + 1).toNatClampNeg), .int (xs (i + 2).toNatClampNeg)]) (rest := []) (q0 := 2) (ci := 10) (w' := ((o, .inl (t 4, 1, .inr (.inl fo))) :: (od, .inl (t 5, 1, .inr (.inr (.inr (.inl fd))))) :: (mC am t σm1 ++ kW aa ad t σk1 []))) g (cX9_transfer_ (rs := (o, .inl (t 4, 1, .inr (.inl fo))) :: (od, .inl (t 5, 1, .inr (.inr (.inr (.inl fd))))) :: kW aa ad t σk1 []) hm) q_i_X9_transfer q_s_X9_transfer rfl rfl rfl q_c_X9_transfer q_l_L_165 q_n_X9 (by decide +kernel) rfl ⟨Nat.le_of_ble_eq_true rfl, Nat.le_of_ble_eq_true rfl⟩ ⟨hkk, hnn⟩ (Nat.le_of_ble_eq_true rfl) (lw_pm_m aa ad am t σk1 σm _ _) (lw_pm_m aa ad am t σk1 σm1 _ _).symm dL_law_436 ?_ rfl
    refine j_istore (L' := [(7, .int r), (6, .int 2), (5, .int i), (4, .ref od), (3, .ref o), (2, .ref (am 0)), (1, .ref (ad 0)), (0, .ref b)]) (pc := 439) g dL_law_439 (Nat.le_of_ble_eq_true rfl) rfl ?_
    refine j_aload_n (pc := 441) g 5 dL_law_441 rfl ?_
    refine j_callVi (pc := 442) (na := 0) (As := []) (rest := []) (q0 := 2) (ci := 10) (w' := ((o, .inl (t 4, 1, .inr (.inl fo))) :: (od, .inl (t 5, 1, .inr (.inr (.inr (.inl fd))))) :: (mC am t σm1 ++ kW aa ad t σk1 []))) g (cX9_thrown_ (rs := (o, .inl (t 4, 1, .inr (.inl fo))) :: (od, .inl (t 5, 1, .inr (.inr (.inr (.inl fd))))) :: kW aa ad t σk1 []) rfl) q_i_X9_thrown q_s_X9_thrown rfl rfl rfl q_c_X9_thrown q_l_L_155 q_n_X9 (by decide +kernel) rfl ⟨Nat.le_of_ble_eq_true rfl, Nat.le_of_ble_eq_true rfl⟩ ⟨hkk, hnn⟩ (Nat.le_of_ble_eq_true rfl) (lw_pm_m aa ad am t σk1 σm1 _ _) (lw_pm_m aa ad am t σk1 σm1 _ _).symm dL_law_442 ?_ rfl
    refine j_iload (pc := 445) g 1 dL_law_445 rfl ?_
    refine j_icmp_eq (tgt := 452) (pc := 447) g dL_law_447 (by decide) (fun _ => ?_) (fun h9 => absurd h0 h9)
    refine j_iload (pc := 452) g 1 dL_law_452 rfl ?_
    refine j_if_ne (tgt := 469) (pc := 454) g dL_law_454 (by decide) (fun _ => ?_) (fun h9 => absurd h9 (by decide))
    refine j_goto (tgt := 2781) (pc := 469) g dL_law_469 (by decide) ?_
    refine j_sub (pc := 2781) g [2, 3, 4, 5, 6, 7] rfl ?_
    exact j_widen g (by omega) (by omega) (next σk1 σm1 fo fd hR)
  · refine j_aload_n (pc := 404) g 4 dL_law_404 rfl ?_
    refine j_aload_n (pc := 405) g 5 dL_law_405 rfl ?_
    refine j_iload (pc := 406) g 0 dL_law_406 rfl ?_
    refine j_iconst (v := 1) (pc := 408) g dL_law_408 (by decide) ?_
    refine j_iadd (pc := 409) g dL_law_409 ?_
    refine j_sld (pc := 410) gl h1 dL_law_410 ?_
    refine j_aload_n (pc := 411) g 5 dL_law_411 rfl ?_
    refine j_iload (pc := 412) g 0 dL_law_412 rfl ?_
    refine j_iconst (v := 2) (pc := 414) g dL_law_414 (by decide) ?_
    refine j_iadd (pc := 415) g dL_law_415 ?_
    refine j_sld (pc := 416) gl h2 dL_law_416 ?_
    refine j_aload_n (pc := 417) g 2 dL_law_417 rfl ?_
    refine j_callH (pc := 418) (na := 4) (As := [.ref (ad 0), .int (xs (i + 1).toNatClampNeg), .int (xs (i + 2).toNatClampNeg), .ref o]) (rest := []) (r := 3) (w' := ((o, .inl (t 4, 1, .inr (.inl fo))) :: (od, .inl (t 5, 1, .inr (.inr (.inr (.inl fd))))) :: (mC am t σm ++ kW aa ad t σk1 []))) g (hL_transfer_x3 (rs := (od, .inl (t 5, 1, .inr (.inr (.inr (.inl fd))))) :: mC am t σm) hst hf) q_t_L_transfer q_w_L_transfer q_l_L_162 q_n_L (by decide) (by decide +kernel) rfl ⟨Nat.le_of_ble_eq_true rfl, Nat.le_of_ble_eq_true rfl⟩ ⟨by omega, by omega⟩ (Nat.le_of_ble_eq_true rfl) (lw_pm_h aa ad am t σk σm _ _) (lw_pm_h aa ad am t σk1 σm _ _).symm dL_law_418 ?_ rfl
    have hkk : k + 1 ≤ room_1.cells := by omega
    have hnn : n + 6 ≤ room_1.slots := by omega
    refine j_istore (L' := [(6, .int 3), (5, .int i), (4, .ref od), (3, .ref o), (2, .ref (am 0)), (1, .ref (ad 0)), (0, .ref b)]) (pc := 421) g dL_law_421 (Nat.le_of_ble_eq_true rfl) rfl ?_
    refine j_aload_n (pc := 423) g 4 dL_law_423 rfl ?_
    refine j_aload_n (pc := 424) g 6 dL_law_424 rfl ?_
    refine j_iload (pc := 425) g 1 dL_law_425 rfl ?_
    refine j_iconst (v := 1) (pc := 427) g dL_law_427 (by decide) ?_
    refine j_iadd (pc := 428) g dL_law_428 ?_
    refine j_sld (pc := 429) gl h1 dL_law_429 ?_
    refine j_aload_n (pc := 430) g 6 dL_law_430 rfl ?_
    refine j_iload (pc := 431) g 1 dL_law_431 rfl ?_
    refine j_iconst (v := 2) (pc := 433) g dL_law_433 (by decide) ?_
    refine j_iadd (pc := 434) g dL_law_434 ?_
    refine j_sld (pc := 435) gl h2 dL_law_435 ?_
    refine j_callVi (pc := 436) (na := 2) (As := [.int (xs (i + 1).toNatClampNeg), .int (xs (i + 2).toNatClampNeg)]) (rest := []) (q0 := 2) (ci := 10) (w' := ((o, .inl (t 4, 1, .inr (.inl fo))) :: (od, .inl (t 5, 1, .inr (.inr (.inr (.inl fd))))) :: (mC am t σm1 ++ kW aa ad t σk1 []))) g (cX9_transfer_ (rs := (o, .inl (t 4, 1, .inr (.inl fo))) :: (od, .inl (t 5, 1, .inr (.inr (.inr (.inl fd))))) :: kW aa ad t σk1 []) hm) q_i_X9_transfer q_s_X9_transfer rfl rfl rfl q_c_X9_transfer q_l_L_165 q_n_X9 (by decide +kernel) rfl ⟨Nat.le_of_ble_eq_true rfl, Nat.le_of_ble_eq_true rfl⟩ ⟨hkk, hnn⟩ (Nat.le_of_ble_eq_true rfl) (lw_pm_m aa ad am t σk1 σm _ _) (lw_pm_m aa ad am t σk1 σm1 _ _).symm dL_law_436 ?_ rfl
    refine j_istore (L' := [(7, .int r), (6, .int 3), (5, .int i), (4, .ref od), (3, .ref o), (2, .ref (am 0)), (1, .ref (ad 0)), (0, .ref b)]) (pc := 439) g dL_law_439 (Nat.le_of_ble_eq_true rfl) rfl ?_
    refine j_aload_n (pc := 441) g 5 dL_law_441 rfl ?_
    refine j_callVi (pc := 442) (na := 0) (As := []) (rest := []) (q0 := 2) (ci := 10) (w' := ((o, .inl (t 4, 1, .inr (.inl fo))) :: (od, .inl (t 5, 1, .inr (.inr (.inr (.inl fd))))) :: (mC am t σm1 ++ kW aa ad t σk1 []))) g (cX9_thrown_ (rs := (o, .inl (t 4, 1, .inr (.inl fo))) :: (od, .inl (t 5, 1, .inr (.inr (.inr (.inl fd))))) :: kW aa ad t σk1 []) rfl) q_i_X9_thrown q_s_X9_thrown rfl rfl rfl q_c_X9_thrown q_l_L_155 q_n_X9 (by decide +kernel) rfl ⟨Nat.le_of_ble_eq_true rfl, Nat.le_of_ble_eq_true rfl⟩ ⟨hkk, hnn⟩ (Nat.le_of_ble_eq_true rfl) (lw_pm_m aa ad am t σk1 σm1 _ _) (lw_pm_m aa ad am t σk1 σm1 _ _).symm dL_law_442 ?_ rfl
    refine j_iload (pc := 445) g 1 dL_law_445 rfl ?_
    refine j_icmp_eq (tgt := 452) (pc := 447) g dL_law_447 (by decide) (fun _ => ?_) (fun h9 => absurd h0 h9)
    refine j_iload (pc := 452) g 1 dL_law_452 rfl ?_
    refine j_if_ne (tgt := 469) (pc := 454) g dL_law_454 (by decide) (fun _ => ?_) (fun h9 => absurd h9 (by decide))
    refine j_goto (tgt := 2781) (pc := 469) g dL_law_469 (by decide) ?_
    refine j_sub (pc := 2781) g [2, 3, 4, 5, 6, 7] rfl ?_
    exact j_widen g (by omega) (by omega) (next σk1 σm1 fo fd hR)
  · refine j_aload_n (pc := 404) g 4 dL_law_404 rfl ?_
    refine j_aload_n (pc := 405) g 5 dL_law_405 rfl ?_
    refine j_iload (pc := 406) g 0 dL_law_406 rfl ?_
    refine j_iconst (v := 1) (pc := 408) g dL_law_408 (by decide) ?_
    refine j_iadd (pc := 409) g dL_law_409 ?_
    refine j_sld (pc := 410) gl h1 dL_law_410 ?_
    refine j_aload_n (pc := 411) g 5 dL_law_411 rfl ?_
    refine j_iload (pc := 412) g 0 dL_law_412 rfl ?_
    refine j_iconst (v := 2) (pc := 414) g dL_law_414 (by decide) ?_
    refine j_iadd (pc := 415) g dL_law_415 ?_
    refine j_sld (pc := 416) gl h2 dL_law_416 ?_
    refine j_aload_n (pc := 417) g 2 dL_law_417 rfl ?_
    refine j_callH (pc := 418) (na := 4) (As := [.ref (ad 0), .int (xs (i + 1).toNatClampNeg), .int (xs (i + 2).toNatClampNeg), .ref o]) (rest := []) (r := 4) (w' := ((o, .inl (t 4, 1, .inr (.inl fo))) :: (od, .inl (t 5, 1, .inr (.inr (.inr (.inl fd))))) :: (mC am t σm ++ kW aa ad t σk1 []))) g (hL_transfer_x4 (rs := (od, .inl (t 5, 1, .inr (.inr (.inr (.inl fd))))) :: mC am t σm) hst hf) q_t_L_transfer q_w_L_transfer q_l_L_162 q_n_L (by decide) (by decide +kernel) rfl ⟨Nat.le_of_ble_eq_true rfl, Nat.le_of_ble_eq_true rfl⟩ ⟨by omega, by omega⟩ (Nat.le_of_ble_eq_true rfl) (lw_pm_h aa ad am t σk σm _ _) (lw_pm_h aa ad am t σk1 σm _ _).symm dL_law_418 ?_ rfl
    have hkk : k + 1 ≤ room_1.cells := by omega
    have hnn : n + 6 ≤ room_1.slots := by omega
    refine j_istore (L' := [(6, .int 4), (5, .int i), (4, .ref od), (3, .ref o), (2, .ref (am 0)), (1, .ref (ad 0)), (0, .ref b)]) (pc := 421) g dL_law_421 (Nat.le_of_ble_eq_true rfl) rfl ?_
    refine j_aload_n (pc := 423) g 4 dL_law_423 rfl ?_
    refine j_aload_n (pc := 424) g 6 dL_law_424 rfl ?_
    refine j_iload (pc := 425) g 1 dL_law_425 rfl ?_
    refine j_iconst (v := 1) (pc := 427) g dL_law_427 (by decide) ?_
    refine j_iadd (pc := 428) g dL_law_428 ?_
    refine j_sld (pc := 429) gl h1 dL_law_429 ?_
    refine j_aload_n (pc := 430) g 6 dL_law_430 rfl ?_
    refine j_iload (pc := 431) g 1 dL_law_431 rfl ?_
    refine j_iconst (v := 2) (pc := 433) g dL_law_433 (by decide) ?_
    refine j_iadd (pc := 434) g dL_law_434 ?_
    refine j_sld (pc := 435) gl h2 dL_law_435 ?_
    refine j_callVi (pc := 436) (na := 2) (As := [.int (xs (i + 1).toNatClampNeg), .int (xs (i + 2).toNatClampNeg)]) (rest := []) (q0 := 2) (ci := 10) (w' := ((o, .inl (t 4, 1, .inr (.inl fo))) :: (od, .inl (t 5, 1, .inr (.inr (.inr (.inl fd))))) :: (mC am t σm1 ++ kW aa ad t σk1 []))) g (cX9_transfer_ (rs := (o, .inl (t 4, 1, .inr (.inl fo))) :: (od, .inl (t 5, 1, .inr (.inr (.inr (.inl fd))))) :: kW aa ad t σk1 []) hm) q_i_X9_transfer q_s_X9_transfer rfl rfl rfl q_c_X9_transfer q_l_L_165 q_n_X9 (by decide +kernel) rfl ⟨Nat.le_of_ble_eq_true rfl, Nat.le_of_ble_eq_true rfl⟩ ⟨hkk, hnn⟩ (Nat.le_of_ble_eq_true rfl) (lw_pm_m aa ad am t σk1 σm _ _) (lw_pm_m aa ad am t σk1 σm1 _ _).symm dL_law_436 ?_ rfl
    refine j_istore (L' := [(7, .int r), (6, .int 4), (5, .int i), (4, .ref od), (3, .ref o), (2, .ref (am 0)), (1, .ref (ad 0)), (0, .ref b)]) (pc := 439) g dL_law_439 (Nat.le_of_ble_eq_true rfl) rfl ?_
    refine j_aload_n (pc := 441) g 5 dL_law_441 rfl ?_
    refine j_callVi (pc := 442) (na := 0) (As := []) (rest := []) (q0 := 2) (ci := 10) (w' := ((o, .inl (t 4, 1, .inr (.inl fo))) :: (od, .inl (t 5, 1, .inr (.inr (.inr (.inl fd))))) :: (mC am t σm1 ++ kW aa ad t σk1 []))) g (cX9_thrown_ (rs := (o, .inl (t 4, 1, .inr (.inl fo))) :: (od, .inl (t 5, 1, .inr (.inr (.inr (.inl fd))))) :: kW aa ad t σk1 []) rfl) q_i_X9_thrown q_s_X9_thrown rfl rfl rfl q_c_X9_thrown q_l_L_155 q_n_X9 (by decide +kernel) rfl ⟨Nat.le_of_ble_eq_true rfl, Nat.le_of_ble_eq_true rfl⟩ ⟨hkk, hnn⟩ (Nat.le_of_ble_eq_true rfl) (lw_pm_m aa ad am t σk1 σm1 _ _) (lw_pm_m aa ad am t σk1 σm1 _ _).symm dL_law_442 ?_ rfl
    refine j_iload (pc := 445) g 1 dL_law_445 rfl ?_
    refine j_icmp_eq (tgt := 452) (pc := 447) g dL_law_447 (by decide) (fun _ => ?_) (fun h9 => absurd h0 h9)
    refine j_iload (pc := 452) g 1 dL_law_452 rfl ?_
    refine j_if_ne (tgt := 469) (pc := 454) g dL_law_454 (by decide) (fun _ => ?_) (fun h9 => absurd h9 (by decide))
    refine j_goto (tgt := 2781) (pc := 469) g dL_law_469 (by decide) ?_
    refine j_sub (pc := 2781) g [2, 3, 4, 5, 6, 7] rfl ?_
    exact j_widen g (by omega) (by omega) (next σk1 σm1 fo fd hR)
set_option maxRecDepth 100000 in
set_option maxHeartbeats 4000000 in
theorem lw_c3 {D : va_G} {t : Nat → ClassId} {aa : gx_AA} {l : Launch} {J : gx_J} {b Ln : Nat} {xs : Nat → Int32} (gl : gx_GL D t (gx_E0 aa) l room_1 cL_law RL 10 J b Ln xs) (hst : l.stackTraces = false) {k n : Nat} (hk : k + 1 ≤ room_1.cells) (hn : n + 6 ≤ room_1.slots) {i : Int32} (h1 : vp_in (i + 1) Ln) (h2 : vp_in (i + 2) Ln) (h3 : vp_in (i + 3) Ln) {ad am : Nat → Nat} {o od : Nat} {σk : CS} {σm : OS} {fo : Nat → Int64} {fd : Nat → UInt64} {R : CS → OS → Prop} (hag : Ag_dismiss R σk σm (xs (i + 1).toNatClampNeg)) (next : ∀ (σk2 : CS) (σm2 : OS) (fo2 : Nat → Int64) (fd2 : Nat → UInt64), R σk2 σm2 → J (k + 1) (n + 6) ((o, .inl (t 4, 1, .inr (.inl fo2))) :: (od, .inl (t 5, 1, .inr (.inr (.inr (.inl fd2))))) :: (mC am t σm2 ++ kW aa ad t σk2 [])) 2781 [(5, .int i), (4, .ref od), (3, .ref o), (2, .ref (am 0)), (1, .ref (ad 0)), (0, .ref b)] []) : J k n ((o, .inl (t 4, 1, .inr (.inl fo))) :: (od, .inl (t 5, 1, .inr (.inr (.inr (.inl fd))))) :: (mC am t σm ++ kW aa ad t σk [])) 472 [(5, .int i), (4, .ref od), (3, .ref o), (2, .ref (am 0)), (1, .ref (ad 0)), (0, .ref b)] [] := by
  have g := gl.g
  have hkk : k ≤ room_1.cells := by omega
  have hnn : n ≤ room_1.slots := by omega
  obtain ⟨r, σm1, hm, hag⟩ := hag
  rcases hag with ⟨σk1, hf, h0, hR⟩ | ⟨σk1, hf, h0, hR⟩ | ⟨σk1, hf, h0, hR⟩
  · refine j_aload_n (pc := 472) g 4 dL_law_472 rfl ?_
    refine j_aload_n (pc := 473) g 5 dL_law_473 rfl ?_
    refine j_iload (pc := 474) g 0 dL_law_474 rfl ?_
    refine j_iconst (v := 1) (pc := 476) g dL_law_476 (by decide) ?_
    refine j_iadd (pc := 477) g dL_law_477 ?_
    refine j_sld (pc := 478) gl h1 dL_law_478 ?_
    refine j_aload_n (pc := 479) g 2 dL_law_479 rfl ?_
    refine j_callH (pc := 480) (na := 3) (As := [.ref (ad 0), .int (xs (i + 1).toNatClampNeg), .ref o]) (rest := []) (r := 0) (w' := ((o, .inl (t 4, 1, .inr (.inl (vp_updL fo (0 : Int32).toNatClampNeg r.toInt64)))) :: (od, .inl (t 5, 1, .inr (.inr (.inr (.inl fd))))) :: (mC am t σm ++ kW aa ad t σk1 []))) g (hL_dismiss_ok (rs := (od, .inl (t 5, 1, .inr (.inr (.inr (.inl fd))))) :: mC am t σm) hst hf) q_t_L_dismiss q_w_L_dismiss q_l_L_166 q_n_L (by decide) (by decide +kernel) rfl ⟨Nat.le_of_ble_eq_true rfl, Nat.le_of_ble_eq_true rfl⟩ ⟨by omega, by omega⟩ (Nat.le_of_ble_eq_true rfl) (lw_pm_h aa ad am t σk σm _ _) (lw_pm_h aa ad am t σk1 σm _ _).symm dL_law_480 ?_ rfl
    have hkk : k + 0 ≤ room_1.cells := by omega
    have hnn : n + 0 ≤ room_1.slots := by omega
    refine j_istore (L' := [(6, .int 0), (5, .int i), (4, .ref od), (3, .ref o), (2, .ref (am 0)), (1, .ref (ad 0)), (0, .ref b)]) (pc := 483) g dL_law_483 (Nat.le_of_ble_eq_true rfl) rfl ?_
    refine j_aload_n (pc := 485) g 4 dL_law_485 rfl ?_
    refine j_aload_n (pc := 486) g 6 dL_law_486 rfl ?_
    refine j_iload (pc := 487) g 1 dL_law_487 rfl ?_
    refine j_iconst (v := 1) (pc := 489) g dL_law_489 (by decide) ?_
    refine j_iadd (pc := 490) g dL_law_490 ?_
    refine j_sld (pc := 491) gl h1 dL_law_491 ?_
    refine j_callVi (pc := 492) (na := 1) (As := [.int (xs (i + 1).toNatClampNeg)]) (rest := []) (q0 := 2) (ci := 10) (w' := ((o, .inl (t 4, 1, .inr (.inl (vp_updL fo (0 : Int32).toNatClampNeg r.toInt64)))) :: (od, .inl (t 5, 1, .inr (.inr (.inr (.inl fd))))) :: (mC am t σm1 ++ kW aa ad t σk1 []))) g (cX9_dismiss_ (rs := (o, .inl (t 4, 1, .inr (.inl (vp_updL fo (0 : Int32).toNatClampNeg r.toInt64)))) :: (od, .inl (t 5, 1, .inr (.inr (.inr (.inl fd))))) :: kW aa ad t σk1 []) hm) q_i_X9_dismiss q_s_X9_dismiss rfl rfl rfl q_c_X9_dismiss q_l_L_168 q_n_X9 (by decide +kernel) rfl ⟨Nat.le_of_ble_eq_true rfl, Nat.le_of_ble_eq_true rfl⟩ ⟨hkk, hnn⟩ (Nat.le_of_ble_eq_true rfl) (lw_pm_m aa ad am t σk1 σm _ _) (lw_pm_m aa ad am t σk1 σm1 _ _).symm dL_law_492 ?_ rfl
    refine j_istore (L' := [(7, .int r), (6, .int 0), (5, .int i), (4, .ref od), (3, .ref o), (2, .ref (am 0)), (1, .ref (ad 0)), (0, .ref b)]) (pc := 495) g dL_law_495 (Nat.le_of_ble_eq_true rfl) rfl ?_
    refine j_aload_n (pc := 497) g 5 dL_law_497 rfl ?_
    refine j_callVi (pc := 498) (na := 0) (As := []) (rest := []) (q0 := 2) (ci := 10) (w' := ((o, .inl (t 4, 1, .inr (.inl (vp_updL fo (0 : Int32).toNatClampNeg r.toInt64)))) :: (od, .inl (t 5, 1, .inr (.inr (.inr (.inl fd))))) :: (mC am t σm1 ++ kW aa ad t σk1 []))) g (cX9_thrown_ (rs := (o, .inl (t 4, 1, .inr (.inl (vp_updL fo (0 : Int32).toNatClampNeg r.toInt64)))) :: (od, .inl (t 5, 1, .inr (.inr (.inr (.inl fd))))) :: kW aa ad t σk1 []) rfl) q_i_X9_thrown q_s_X9_thrown rfl rfl rfl q_c_X9_thrown q_l_L_155 q_n_X9 (by decide +kernel) rfl ⟨Nat.le_of_ble_eq_true rfl, Nat.le_of_ble_eq_true rfl⟩ ⟨hkk, hnn⟩ (Nat.le_of_ble_eq_true rfl) (lw_pm_m aa ad am t σk1 σm1 _ _) (lw_pm_m aa ad am t σk1 σm1 _ _).symm dL_law_498 ?_ rfl
    refine j_iload (pc := 501) g 1 dL_law_501 rfl ?_
    refine j_icmp_eq (tgt := 508) (pc := 503) g dL_law_503 (by decide) (fun _ => ?_) (fun h9 => absurd h0 h9)
    refine j_iload (pc := 508) g 1 dL_law_508 rfl ?_
    refine j_if_ne (tgt := 525) (pc := 510) g dL_law_510 (by decide) (fun h9 => absurd rfl h9) (fun _ => ?_)
    refine j_aload_n (pc := 513) g 4 dL_law_513 rfl ?_
    refine j_iconst (v := 0) (pc := 514) g dL_law_514 (by decide) ?_
    refine j_lald (pc := 515) g 0 rfl (show gx_in (0 : Int32) 1 by decide) dL_law_515 ?_
    refine j_iload (pc := 516) g 0 dL_law_516 rfl ?_
    refine j_i2l (pc := 518) g dL_law_518 ?_
    refine j_lcmp (pc := 519) g dL_law_519 ?_
    refine j_if_eq (tgt := 525) (pc := 520) g dL_law_520 (by decide) (fun _ => ?_) (fun h9 => absurd (lw_cmp0 _) h9)
    refine j_goto (tgt := 2781) (pc := 525) g dL_law_525 (by decide) ?_
    refine j_sub (pc := 2781) g [2, 3, 4, 5, 6, 7] rfl ?_
    exact j_widen g (by omega) (by omega) (next σk1 σm1 (vp_updL fo (0 : Int32).toNatClampNeg r.toInt64) fd hR)
  · refine j_aload_n (pc := 472) g 4 dL_law_472 rfl ?_
    refine j_aload_n (pc := 473) g 5 dL_law_473 rfl ?_
    refine j_iload (pc := 474) g 0 dL_law_474 rfl ?_
    refine j_iconst (v := 1) (pc := 476) g dL_law_476 (by decide) ?_
    refine j_iadd (pc := 477) g dL_law_477 ?_
    refine j_sld (pc := 478) gl h1 dL_law_478 ?_
    refine j_aload_n (pc := 479) g 2 dL_law_479 rfl ?_
    refine j_callH (pc := 480) (na := 3) (As := [.ref (ad 0), .int (xs (i + 1).toNatClampNeg), .ref o]) (rest := []) (r := 1) (w' := ((o, .inl (t 4, 1, .inr (.inl fo))) :: (od, .inl (t 5, 1, .inr (.inr (.inr (.inl fd))))) :: (mC am t σm ++ kW aa ad t σk1 []))) g (hL_dismiss_x1 (rs := (od, .inl (t 5, 1, .inr (.inr (.inr (.inl fd))))) :: mC am t σm) hst hf) q_t_L_dismiss q_w_L_dismiss q_l_L_166 q_n_L (by decide) (by decide +kernel) rfl ⟨Nat.le_of_ble_eq_true rfl, Nat.le_of_ble_eq_true rfl⟩ ⟨by omega, by omega⟩ (Nat.le_of_ble_eq_true rfl) (lw_pm_h aa ad am t σk σm _ _) (lw_pm_h aa ad am t σk1 σm _ _).symm dL_law_480 ?_ rfl
    have hkk : k + 1 ≤ room_1.cells := by omega
    have hnn : n + 6 ≤ room_1.slots := by omega
    refine j_istore (L' := [(6, .int 1), (5, .int i), (4, .ref od), (3, .ref o), (2, .ref (am 0)), (1, .ref (ad 0)), (0, .ref b)]) (pc := 483) g dL_law_483 (Nat.le_of_ble_eq_true rfl) rfl ?_
    refine j_aload_n (pc := 485) g 4 dL_law_485 rfl ?_
    refine j_aload_n (pc := 486) g 6 dL_law_486 rfl ?_
    refine j_iload (pc := 487) g 1 dL_law_487 rfl ?_
    refine j_iconst (v := 1) (pc := 489) g dL_law_489 (by decide) ?_
    refine j_iadd (pc := 490) g dL_law_490 ?_
    refine j_sld (pc := 491) gl h1 dL_law_491 ?_
    refine j_callVi (pc := 492) (na := 1) (As := [.int (xs (i + 1).toNatClampNeg)]) (rest := []) (q0 := 2) (ci := 10) (w' := ((o, .inl (t 4, 1, .inr (.inl fo))) :: (od, .inl (t 5, 1, .inr (.inr (.inr (.inl fd))))) :: (mC am t σm1 ++ kW aa ad t σk1 []))) g (cX9_dismiss_ (rs := (o, .inl (t 4, 1, .inr (.inl fo))) :: (od, .inl (t 5, 1, .inr (.inr (.inr (.inl fd))))) :: kW aa ad t σk1 []) hm) q_i_X9_dismiss q_s_X9_dismiss rfl rfl rfl q_c_X9_dismiss q_l_L_168 q_n_X9 (by decide +kernel) rfl ⟨Nat.le_of_ble_eq_true rfl, Nat.le_of_ble_eq_true rfl⟩ ⟨hkk, hnn⟩ (Nat.le_of_ble_eq_true rfl) (lw_pm_m aa ad am t σk1 σm _ _) (lw_pm_m aa ad am t σk1 σm1 _ _).symm dL_law_492 ?_ rfl
    refine j_istore (L' := [(7, .int r), (6, .int 1), (5, .int i), (4, .ref od), (3, .ref o), (2, .ref (am 0)), (1, .ref (ad 0)), (0, .ref b)]) (pc := 495) g dL_law_495 (Nat.le_of_ble_eq_true rfl) rfl ?_
    refine j_aload_n (pc := 497) g 5 dL_law_497 rfl ?_
    refine j_callVi (pc := 498) (na := 0) (As := []) (rest := []) (q0 := 2) (ci := 10) (w' := ((o, .inl (t 4, 1, .inr (.inl fo))) :: (od, .inl (t 5, 1, .inr (.inr (.inr (.inl fd))))) :: (mC am t σm1 ++ kW aa ad t σk1 []))) g (cX9_thrown_ (rs := (o, .inl (t 4, 1, .inr (.inl fo))) :: (od, .inl (t 5, 1, .inr (.inr (.inr (.inl fd))))) :: kW aa ad t σk1 []) rfl) q_i_X9_thrown q_s_X9_thrown rfl rfl rfl q_c_X9_thrown q_l_L_155 q_n_X9 (by decide +kernel) rfl ⟨Nat.le_of_ble_eq_true rfl, Nat.le_of_ble_eq_true rfl⟩ ⟨hkk, hnn⟩ (Nat.le_of_ble_eq_true rfl) (lw_pm_m aa ad am t σk1 σm1 _ _) (lw_pm_m aa ad am t σk1 σm1 _ _).symm dL_law_498 ?_ rfl
    refine j_iload (pc := 501) g 1 dL_law_501 rfl ?_
    refine j_icmp_eq (tgt := 508) (pc := 503) g dL_law_503 (by decide) (fun _ => ?_) (fun h9 => absurd h0 h9)
    refine j_iload (pc := 508) g 1 dL_law_508 rfl ?_
    refine j_if_ne (tgt := 525) (pc := 510) g dL_law_510 (by decide) (fun _ => ?_) (fun h9 => absurd h9 (by decide))
    refine j_goto (tgt := 2781) (pc := 525) g dL_law_525 (by decide) ?_
    refine j_sub (pc := 2781) g [2, 3, 4, 5, 6, 7] rfl ?_
    exact j_widen g (by omega) (by omega) (next σk1 σm1 fo fd hR)
  · refine j_aload_n (pc := 472) g 4 dL_law_472 rfl ?_
    refine j_aload_n (pc := 473) g 5 dL_law_473 rfl ?_
    refine j_iload (pc := 474) g 0 dL_law_474 rfl ?_
    refine j_iconst (v := 1) (pc := 476) g dL_law_476 (by decide) ?_
    refine j_iadd (pc := 477) g dL_law_477 ?_
    refine j_sld (pc := 478) gl h1 dL_law_478 ?_
    refine j_aload_n (pc := 479) g 2 dL_law_479 rfl ?_
    refine j_callH (pc := 480) (na := 3) (As := [.ref (ad 0), .int (xs (i + 1).toNatClampNeg), .ref o]) (rest := []) (r := 2) (w' := ((o, .inl (t 4, 1, .inr (.inl fo))) :: (od, .inl (t 5, 1, .inr (.inr (.inr (.inl fd))))) :: (mC am t σm ++ kW aa ad t σk1 []))) g (hL_dismiss_x2 (rs := (od, .inl (t 5, 1, .inr (.inr (.inr (.inl fd))))) :: mC am t σm) hst hf) q_t_L_dismiss q_w_L_dismiss q_l_L_166 q_n_L (by decide) (by decide +kernel) rfl ⟨Nat.le_of_ble_eq_true rfl, Nat.le_of_ble_eq_true rfl⟩ ⟨by omega, by omega⟩ (Nat.le_of_ble_eq_true rfl) (lw_pm_h aa ad am t σk σm _ _) (lw_pm_h aa ad am t σk1 σm _ _).symm dL_law_480 ?_ rfl
    have hkk : k + 1 ≤ room_1.cells := by omega
    have hnn : n + 6 ≤ room_1.slots := by omega
    refine j_istore (L' := [(6, .int 2), (5, .int i), (4, .ref od), (3, .ref o), (2, .ref (am 0)), (1, .ref (ad 0)), (0, .ref b)]) (pc := 483) g dL_law_483 (Nat.le_of_ble_eq_true rfl) rfl ?_
    refine j_aload_n (pc := 485) g 4 dL_law_485 rfl ?_
    refine j_aload_n (pc := 486) g 6 dL_law_486 rfl ?_
    refine j_iload (pc := 487) g 1 dL_law_487 rfl ?_
    refine j_iconst (v := 1) (pc := 489) g dL_law_489 (by decide) ?_
    refine j_iadd (pc := 490) g dL_law_490 ?_
    refine j_sld (pc := 491) gl h1 dL_law_491 ?_
    refine j_callVi (pc := 492) (na := 1) (As := [.int (xs (i + 1).toNatClampNeg)]) (rest := []) (q0 := 2) (ci := 10) (w' := ((o, .inl (t 4, 1, .inr (.inl fo))) :: (od, .inl (t 5, 1, .inr (.inr (.inr (.inl fd))))) :: (mC am t σm1 ++ kW aa ad t σk1 []))) g (cX9_dismiss_ (rs := (o, .inl (t 4, 1, .inr (.inl fo))) :: (od, .inl (t 5, 1, .inr (.inr (.inr (.inl fd))))) :: kW aa ad t σk1 []) hm) q_i_X9_dismiss q_s_X9_dismiss rfl rfl rfl q_c_X9_dismiss q_l_L_168 q_n_X9 (by decide +kernel) rfl ⟨Nat.le_of_ble_eq_true rfl, Nat.le_of_ble_eq_true rfl⟩ ⟨hkk, hnn⟩ (Nat.le_of_ble_eq_true rfl) (lw_pm_m aa ad am t σk1 σm _ _) (lw_pm_m aa ad am t σk1 σm1 _ _).symm dL_law_492 ?_ rfl
    refine j_istore (L' := [(7, .int r), (6, .int 2), (5, .int i), (4, .ref od), (3, .ref o), (2, .ref (am 0)), (1, .ref (ad 0)), (0, .ref b)]) (pc := 495) g dL_law_495 (Nat.le_of_ble_eq_true rfl) rfl ?_
    refine j_aload_n (pc := 497) g 5 dL_law_497 rfl ?_
    refine j_callVi (pc := 498) (na := 0) (As := []) (rest := []) (q0 := 2) (ci := 10) (w' := ((o, .inl (t 4, 1, .inr (.inl fo))) :: (od, .inl (t 5, 1, .inr (.inr (.inr (.inl fd))))) :: (mC am t σm1 ++ kW aa ad t σk1 []))) g (cX9_thrown_ (rs := (o, .inl (t 4, 1, .inr (.inl fo))) :: (od, .inl (t 5, 1, .inr (.inr (.inr (.inl fd))))) :: kW aa ad t σk1 []) rfl) q_i_X9_thrown q_s_X9_thrown rfl rfl rfl q_c_X9_thrown q_l_L_155 q_n_X9 (by decide +kernel) rfl ⟨Nat.le_of_ble_eq_true rfl, Nat.le_of_ble_eq_true rfl⟩ ⟨hkk, hnn⟩ (Nat.le_of_ble_eq_true rfl) (lw_pm_m aa ad am t σk1 σm1 _ _) (lw_pm_m aa ad am t σk1 σm1 _ _).symm dL_law_498 ?_ rfl
    refine j_iload (pc := 501) g 1 dL_law_501 rfl ?_
    refine j_icmp_eq (tgt := 508) (pc := 503) g dL_law_503 (by decide) (fun _ => ?_) (fun h9 => absurd h0 h9)
    refine j_iload (pc := 508) g 1 dL_law_508 rfl ?_
    refine j_if_ne (tgt := 525) (pc := 510) g dL_law_510 (by decide) (fun _ => ?_) (fun h9 => absurd h9 (by decide))
    refine j_goto (tgt := 2781) (pc := 525) g dL_law_525 (by decide) ?_
    refine j_sub (pc := 2781) g [2, 3, 4, 5, 6, 7] rfl ?_
    exact j_widen g (by omega) (by omega) (next σk1 σm1 fo fd hR)
set_option maxRecDepth 100000 in
set_option maxHeartbeats 4000000 in
theorem lw_c4 {D : va_G} {t : Nat → ClassId} {aa : gx_AA} {l : Launch} {J : gx_J} {b Ln : Nat} {xs : Nat → Int32} (gl : gx_GL D t (gx_E0 aa) l room_1 cL_law RL 10 J b Ln xs) (hst : l.stackTraces = false) {k n : Nat} (hk : k + 1 ≤ room_1.cells) (hn : n + 6 ≤ room_1.slots) {i : Int32} (h1 : vp_in (i + 1) Ln) (h2 : vp_in (i + 2) Ln) (h3 : vp_in (i + 3) Ln) {ad am : Nat → Nat} {o od : Nat} {σk : CS} {σm : OS} {fo : Nat → Int64} {fd : Nat → UInt64} {R : CS → OS → Prop} (hag : Ag_issue R σk σm (xs (i + 1).toNatClampNeg) (xs (i + 2).toNatClampNeg) (xs (i + 3).toNatClampNeg)) (next : ∀ (σk2 : CS) (σm2 : OS) (fo2 : Nat → Int64) (fd2 : Nat → UInt64), R σk2 σm2 → J (k + 1) (n + 6) ((o, .inl (t 4, 1, .inr (.inl fo2))) :: (od, .inl (t 5, 1, .inr (.inr (.inr (.inl fd2))))) :: (mC am t σm2 ++ kW aa ad t σk2 [])) 2781 [(5, .int i), (4, .ref od), (3, .ref o), (2, .ref (am 0)), (1, .ref (ad 0)), (0, .ref b)] []) : J k n ((o, .inl (t 4, 1, .inr (.inl fo))) :: (od, .inl (t 5, 1, .inr (.inr (.inr (.inl fd))))) :: (mC am t σm ++ kW aa ad t σk [])) 528 [(5, .int i), (4, .ref od), (3, .ref o), (2, .ref (am 0)), (1, .ref (ad 0)), (0, .ref b)] [] := by
  have g := gl.g
  have hkk : k ≤ room_1.cells := by omega
  have hnn : n ≤ room_1.slots := by omega
  obtain ⟨r, σm1, hm, hag⟩ := hag
  rcases hag with ⟨σk1, hf, h0, hR⟩ | ⟨σk1, hf, h0, hR⟩ | ⟨σk1, hf, h0, hR⟩ | ⟨σk1, hf, h0, hR⟩ | ⟨σk1, hf, h0, hR⟩
  · refine j_aload_n (pc := 528) g 4 dL_law_528 rfl ?_
    refine j_aload_n (pc := 529) g 5 dL_law_529 rfl ?_
    refine j_iload (pc := 530) g 0 dL_law_530 rfl ?_
    refine j_iconst (v := 1) (pc := 532) g dL_law_532 (by decide) ?_
    refine j_iadd (pc := 533) g dL_law_533 ?_
    refine j_sld (pc := 534) gl h1 dL_law_534 ?_
    refine j_aload_n (pc := 535) g 5 dL_law_535 rfl ?_
    refine j_iload (pc := 536) g 0 dL_law_536 rfl ?_
    refine j_iconst (v := 2) (pc := 538) g dL_law_538 (by decide) ?_
    refine j_iadd (pc := 539) g dL_law_539 ?_
    refine j_sld (pc := 540) gl h2 dL_law_540 ?_
    refine j_aload_n (pc := 541) g 5 dL_law_541 rfl ?_
    refine j_iload (pc := 542) g 0 dL_law_542 rfl ?_
    refine j_iconst (v := 3) (pc := 544) g dL_law_544 (by decide) ?_
    refine j_iadd (pc := 545) g dL_law_545 ?_
    refine j_sld (pc := 546) gl h3 dL_law_546 ?_
    refine j_aload_n (pc := 547) g 2 dL_law_547 rfl ?_
    refine j_callH (pc := 548) (na := 5) (As := [.ref (ad 0), .int (xs (i + 1).toNatClampNeg), .int (xs (i + 2).toNatClampNeg), .int (xs (i + 3).toNatClampNeg), .ref o]) (rest := []) (r := 0) (w' := ((o, .inl (t 4, 1, .inr (.inl (vp_updL fo (0 : Int32).toNatClampNeg r.toInt64)))) :: (od, .inl (t 5, 1, .inr (.inr (.inr (.inl fd))))) :: (mC am t σm ++ kW aa ad t σk1 []))) g (hL_issue_ok (rs := (od, .inl (t 5, 1, .inr (.inr (.inr (.inl fd))))) :: mC am t σm) hst hf) q_t_L_issue q_w_L_issue q_l_L_169 q_n_L (by decide) (by decide +kernel) rfl ⟨Nat.le_of_ble_eq_true rfl, Nat.le_of_ble_eq_true rfl⟩ ⟨by omega, by omega⟩ (Nat.le_of_ble_eq_true rfl) (lw_pm_h aa ad am t σk σm _ _) (lw_pm_h aa ad am t σk1 σm _ _).symm dL_law_548 ?_ rfl
    have hkk : k + 0 ≤ room_1.cells := by omega
    have hnn : n + 0 ≤ room_1.slots := by omega
    refine j_istore (L' := [(6, .int 0), (5, .int i), (4, .ref od), (3, .ref o), (2, .ref (am 0)), (1, .ref (ad 0)), (0, .ref b)]) (pc := 551) g dL_law_551 (Nat.le_of_ble_eq_true rfl) rfl ?_
    refine j_aload_n (pc := 553) g 4 dL_law_553 rfl ?_
    refine j_aload_n (pc := 554) g 6 dL_law_554 rfl ?_
    refine j_iload (pc := 555) g 1 dL_law_555 rfl ?_
    refine j_iconst (v := 1) (pc := 557) g dL_law_557 (by decide) ?_
    refine j_iadd (pc := 558) g dL_law_558 ?_
    refine j_sld (pc := 559) gl h1 dL_law_559 ?_
    refine j_aload_n (pc := 560) g 6 dL_law_560 rfl ?_
    refine j_iload (pc := 561) g 1 dL_law_561 rfl ?_
    refine j_iconst (v := 2) (pc := 563) g dL_law_563 (by decide) ?_
    refine j_iadd (pc := 564) g dL_law_564 ?_
    refine j_sld (pc := 565) gl h2 dL_law_565 ?_
    refine j_aload_n (pc := 566) g 6 dL_law_566 rfl ?_
    refine j_iload (pc := 567) g 1 dL_law_567 rfl ?_
    refine j_iconst (v := 3) (pc := 569) g dL_law_569 (by decide) ?_
    refine j_iadd (pc := 570) g dL_law_570 ?_
    refine j_sld (pc := 571) gl h3 dL_law_571 ?_
    refine j_callVi (pc := 572) (na := 3) (As := [.int (xs (i + 1).toNatClampNeg), .int (xs (i + 2).toNatClampNeg), .int (xs (i + 3).toNatClampNeg)]) (rest := []) (q0 := 2) (ci := 10) (w' := ((o, .inl (t 4, 1, .inr (.inl (vp_updL fo (0 : Int32).toNatClampNeg r.toInt64)))) :: (od, .inl (t 5, 1, .inr (.inr (.inr (.inl fd))))) :: (mC am t σm1 ++ kW aa ad t σk1 []))) g (cX9_issue_ (rs := (o, .inl (t 4, 1, .inr (.inl (vp_updL fo (0 : Int32).toNatClampNeg r.toInt64)))) :: (od, .inl (t 5, 1, .inr (.inr (.inr (.inl fd))))) :: kW aa ad t σk1 []) hm) q_i_X9_issue q_s_X9_issue rfl rfl rfl q_c_X9_issue q_l_L_171 q_n_X9 (by decide +kernel) rfl ⟨Nat.le_of_ble_eq_true rfl, Nat.le_of_ble_eq_true rfl⟩ ⟨hkk, hnn⟩ (Nat.le_of_ble_eq_true rfl) (lw_pm_m aa ad am t σk1 σm _ _) (lw_pm_m aa ad am t σk1 σm1 _ _).symm dL_law_572 ?_ rfl
    refine j_istore (L' := [(7, .int r), (6, .int 0), (5, .int i), (4, .ref od), (3, .ref o), (2, .ref (am 0)), (1, .ref (ad 0)), (0, .ref b)]) (pc := 575) g dL_law_575 (Nat.le_of_ble_eq_true rfl) rfl ?_
    refine j_aload_n (pc := 577) g 5 dL_law_577 rfl ?_
    refine j_callVi (pc := 578) (na := 0) (As := []) (rest := []) (q0 := 2) (ci := 10) (w' := ((o, .inl (t 4, 1, .inr (.inl (vp_updL fo (0 : Int32).toNatClampNeg r.toInt64)))) :: (od, .inl (t 5, 1, .inr (.inr (.inr (.inl fd))))) :: (mC am t σm1 ++ kW aa ad t σk1 []))) g (cX9_thrown_ (rs := (o, .inl (t 4, 1, .inr (.inl (vp_updL fo (0 : Int32).toNatClampNeg r.toInt64)))) :: (od, .inl (t 5, 1, .inr (.inr (.inr (.inl fd))))) :: kW aa ad t σk1 []) rfl) q_i_X9_thrown q_s_X9_thrown rfl rfl rfl q_c_X9_thrown q_l_L_155 q_n_X9 (by decide +kernel) rfl ⟨Nat.le_of_ble_eq_true rfl, Nat.le_of_ble_eq_true rfl⟩ ⟨hkk, hnn⟩ (Nat.le_of_ble_eq_true rfl) (lw_pm_m aa ad am t σk1 σm1 _ _) (lw_pm_m aa ad am t σk1 σm1 _ _).symm dL_law_578 ?_ rfl
    refine j_iload (pc := 581) g 1 dL_law_581 rfl ?_
    refine j_icmp_eq (tgt := 588) (pc := 583) g dL_law_583 (by decide) (fun _ => ?_) (fun h9 => absurd h0 h9)
    refine j_iload (pc := 588) g 1 dL_law_588 rfl ?_
    refine j_if_ne (tgt := 605) (pc := 590) g dL_law_590 (by decide) (fun h9 => absurd rfl h9) (fun _ => ?_)
    refine j_aload_n (pc := 593) g 4 dL_law_593 rfl ?_
    refine j_iconst (v := 0) (pc := 594) g dL_law_594 (by decide) ?_
    refine j_lald (pc := 595) g 0 rfl (show gx_in (0 : Int32) 1 by decide) dL_law_595 ?_
    refine j_iload (pc := 596) g 0 dL_law_596 rfl ?_
    refine j_i2l (pc := 598) g dL_law_598 ?_
    refine j_lcmp (pc := 599) g dL_law_599 ?_
    refine j_if_eq (tgt := 605) (pc := 600) g dL_law_600 (by decide) (fun _ => ?_) (fun h9 => absurd (lw_cmp0 _) h9)
    refine j_goto (tgt := 2781) (pc := 605) g dL_law_605 (by decide) ?_
    refine j_sub (pc := 2781) g [2, 3, 4, 5, 6, 7] rfl ?_
    exact j_widen g (by omega) (by omega) (next σk1 σm1 (vp_updL fo (0 : Int32).toNatClampNeg r.toInt64) fd hR)
  · refine j_aload_n (pc := 528) g 4 dL_law_528 rfl ?_
    refine j_aload_n (pc := 529) g 5 dL_law_529 rfl ?_
    refine j_iload (pc := 530) g 0 dL_law_530 rfl ?_
    refine j_iconst (v := 1) (pc := 532) g dL_law_532 (by decide) ?_
    refine j_iadd (pc := 533) g dL_law_533 ?_
    refine j_sld (pc := 534) gl h1 dL_law_534 ?_
    refine j_aload_n (pc := 535) g 5 dL_law_535 rfl ?_
    refine j_iload (pc := 536) g 0 dL_law_536 rfl ?_
    refine j_iconst (v := 2) (pc := 538) g dL_law_538 (by decide) ?_
    refine j_iadd (pc := 539) g dL_law_539 ?_
    refine j_sld (pc := 540) gl h2 dL_law_540 ?_
    refine j_aload_n (pc := 541) g 5 dL_law_541 rfl ?_
    refine j_iload (pc := 542) g 0 dL_law_542 rfl ?_
    refine j_iconst (v := 3) (pc := 544) g dL_law_544 (by decide) ?_
    refine j_iadd (pc := 545) g dL_law_545 ?_
    refine j_sld (pc := 546) gl h3 dL_law_546 ?_
    refine j_aload_n (pc := 547) g 2 dL_law_547 rfl ?_
    refine j_callH (pc := 548) (na := 5) (As := [.ref (ad 0), .int (xs (i + 1).toNatClampNeg), .int (xs (i + 2).toNatClampNeg), .int (xs (i + 3).toNatClampNeg), .ref o]) (rest := []) (r := 1) (w' := ((o, .inl (t 4, 1, .inr (.inl fo))) :: (od, .inl (t 5, 1, .inr (.inr (.inr (.inl fd))))) :: (mC am t σm ++ kW aa ad t σk1 []))) g (hL_issue_x1 (rs := (od, .inl (t 5, 1, .inr (.inr (.inr (.inl fd))))) :: mC am t σm) hst hf) q_t_L_issue q_w_L_issue q_l_L_169 q_n_L (by decide) (by decide +kernel) rfl ⟨Nat.le_of_ble_eq_true rfl, Nat.le_of_ble_eq_true rfl⟩ ⟨by omega, by omega⟩ (Nat.le_of_ble_eq_true rfl) (lw_pm_h aa ad am t σk σm _ _) (lw_pm_h aa ad am t σk1 σm _ _).symm dL_law_548 ?_ rfl
    have hkk : k + 1 ≤ room_1.cells := by omega
    have hnn : n + 6 ≤ room_1.slots := by omega
    refine j_istore (L' := [(6, .int 1), (5, .int i), (4, .ref od), (3, .ref o), (2, .ref (am 0)), (1, .ref (ad 0)), (0, .ref b)]) (pc := 551) g dL_law_551 (Nat.le_of_ble_eq_true rfl) rfl ?_
    refine j_aload_n (pc := 553) g 4 dL_law_553 rfl ?_
    refine j_aload_n (pc := 554) g 6 dL_law_554 rfl ?_
    refine j_iload (pc := 555) g 1 dL_law_555 rfl ?_
    refine j_iconst (v := 1) (pc := 557) g dL_law_557 (by decide) ?_
    refine j_iadd (pc := 558) g dL_law_558 ?_
    refine j_sld (pc := 559) gl h1 dL_law_559 ?_
    refine j_aload_n (pc := 560) g 6 dL_law_560 rfl ?_
    refine j_iload (pc := 561) g 1 dL_law_561 rfl ?_
    refine j_iconst (v := 2) (pc := 563) g dL_law_563 (by decide) ?_
    refine j_iadd (pc := 564) g dL_law_564 ?_
    refine j_sld (pc := 565) gl h2 dL_law_565 ?_
    refine j_aload_n (pc := 566) g 6 dL_law_566 rfl ?_
    refine j_iload (pc := 567) g 1 dL_law_567 rfl ?_
    refine j_iconst (v := 3) (pc := 569) g dL_law_569 (by decide) ?_
    refine j_iadd (pc := 570) g dL_law_570 ?_
    refine j_sld (pc := 571) gl h3 dL_law_571 ?_
    refine j_callVi (pc := 572) (na := 3) (As := [.int (xs (i + 1).toNatClampNeg), .int (xs (i + 2).toNatClampNeg), .int (xs (i + 3).toNatClampNeg)]) (rest := []) (q0 := 2) (ci := 10) (w' := ((o, .inl (t 4, 1, .inr (.inl fo))) :: (od, .inl (t 5, 1, .inr (.inr (.inr (.inl fd))))) :: (mC am t σm1 ++ kW aa ad t σk1 []))) g (cX9_issue_ (rs := (o, .inl (t 4, 1, .inr (.inl fo))) :: (od, .inl (t 5, 1, .inr (.inr (.inr (.inl fd))))) :: kW aa ad t σk1 []) hm) q_i_X9_issue q_s_X9_issue rfl rfl rfl q_c_X9_issue q_l_L_171 q_n_X9 (by decide +kernel) rfl ⟨Nat.le_of_ble_eq_true rfl, Nat.le_of_ble_eq_true rfl⟩ ⟨hkk, hnn⟩ (Nat.le_of_ble_eq_true rfl) (lw_pm_m aa ad am t σk1 σm _ _) (lw_pm_m aa ad am t σk1 σm1 _ _).symm dL_law_572 ?_ rfl
    refine j_istore (L' := [(7, .int r), (6, .int 1), (5, .int i), (4, .ref od), (3, .ref o), (2, .ref (am 0)), (1, .ref (ad 0)), (0, .ref b)]) (pc := 575) g dL_law_575 (Nat.le_of_ble_eq_true rfl) rfl ?_
    refine j_aload_n (pc := 577) g 5 dL_law_577 rfl ?_
    refine j_callVi (pc := 578) (na := 0) (As := []) (rest := []) (q0 := 2) (ci := 10) (w' := ((o, .inl (t 4, 1, .inr (.inl fo))) :: (od, .inl (t 5, 1, .inr (.inr (.inr (.inl fd))))) :: (mC am t σm1 ++ kW aa ad t σk1 []))) g (cX9_thrown_ (rs := (o, .inl (t 4, 1, .inr (.inl fo))) :: (od, .inl (t 5, 1, .inr (.inr (.inr (.inl fd))))) :: kW aa ad t σk1 []) rfl) q_i_X9_thrown q_s_X9_thrown rfl rfl rfl q_c_X9_thrown q_l_L_155 q_n_X9 (by decide +kernel) rfl ⟨Nat.le_of_ble_eq_true rfl, Nat.le_of_ble_eq_true rfl⟩ ⟨hkk, hnn⟩ (Nat.le_of_ble_eq_true rfl) (lw_pm_m aa ad am t σk1 σm1 _ _) (lw_pm_m aa ad am t σk1 σm1 _ _).symm dL_law_578 ?_ rfl
    refine j_iload (pc := 581) g 1 dL_law_581 rfl ?_
    refine j_icmp_eq (tgt := 588) (pc := 583) g dL_law_583 (by decide) (fun _ => ?_) (fun h9 => absurd h0 h9)
    refine j_iload (pc := 588) g 1 dL_law_588 rfl ?_
    refine j_if_ne (tgt := 605) (pc := 590) g dL_law_590 (by decide) (fun _ => ?_) (fun h9 => absurd h9 (by decide))
    refine j_goto (tgt := 2781) (pc := 605) g dL_law_605 (by decide) ?_
    refine j_sub (pc := 2781) g [2, 3, 4, 5, 6, 7] rfl ?_
    exact j_widen g (by omega) (by omega) (next σk1 σm1 fo fd hR)
  · refine j_aload_n (pc := 528) g 4 dL_law_528 rfl ?_
    refine j_aload_n (pc := 529) g 5 dL_law_529 rfl ?_
    refine j_iload (pc := 530) g 0 dL_law_530 rfl ?_
    refine j_iconst (v := 1) (pc := 532) g dL_law_532 (by decide) ?_
    refine j_iadd (pc := 533) g dL_law_533 ?_
    refine j_sld (pc := 534) gl h1 dL_law_534 ?_
    refine j_aload_n (pc := 535) g 5 dL_law_535 rfl ?_
    refine j_iload (pc := 536) g 0 dL_law_536 rfl ?_
    refine j_iconst (v := 2) (pc := 538) g dL_law_538 (by decide) ?_
    refine j_iadd (pc := 539) g dL_law_539 ?_
    refine j_sld (pc := 540) gl h2 dL_law_540 ?_
    refine j_aload_n (pc := 541) g 5 dL_law_541 rfl ?_
    refine j_iload (pc := 542) g 0 dL_law_542 rfl ?_
    refine j_iconst (v := 3) (pc := 544) g dL_law_544 (by decide) ?_
    refine j_iadd (pc := 545) g dL_law_545 ?_
    refine j_sld (pc := 546) gl h3 dL_law_546 ?_
    refine j_aload_n (pc := 547) g 2 dL_law_547 rfl ?_
    refine j_callH (pc := 548) (na := 5) (As := [.ref (ad 0), .int (xs (i + 1).toNatClampNeg), .int (xs (i + 2).toNatClampNeg), .int (xs (i + 3).toNatClampNeg), .ref o]) (rest := []) (r := 2) (w' := ((o, .inl (t 4, 1, .inr (.inl fo))) :: (od, .inl (t 5, 1, .inr (.inr (.inr (.inl fd))))) :: (mC am t σm ++ kW aa ad t σk1 []))) g (hL_issue_x2 (rs := (od, .inl (t 5, 1, .inr (.inr (.inr (.inl fd))))) :: mC am t σm) hst hf) q_t_L_issue q_w_L_issue q_l_L_169 q_n_L (by decide) (by decide +kernel) rfl ⟨Nat.le_of_ble_eq_true rfl, Nat.le_of_ble_eq_true rfl⟩ ⟨by omega, by omega⟩ (Nat.le_of_ble_eq_true rfl) (lw_pm_h aa ad am t σk σm _ _) (lw_pm_h aa ad am t σk1 σm _ _).symm dL_law_548 ?_ rfl
    have hkk : k + 1 ≤ room_1.cells := by omega
    have hnn : n + 6 ≤ room_1.slots := by omega
    refine j_istore (L' := [(6, .int 2), (5, .int i), (4, .ref od), (3, .ref o), (2, .ref (am 0)), (1, .ref (ad 0)), (0, .ref b)]) (pc := 551) g dL_law_551 (Nat.le_of_ble_eq_true rfl) rfl ?_
    refine j_aload_n (pc := 553) g 4 dL_law_553 rfl ?_
    refine j_aload_n (pc := 554) g 6 dL_law_554 rfl ?_
    refine j_iload (pc := 555) g 1 dL_law_555 rfl ?_
    refine j_iconst (v := 1) (pc := 557) g dL_law_557 (by decide) ?_
    refine j_iadd (pc := 558) g dL_law_558 ?_
    refine j_sld (pc := 559) gl h1 dL_law_559 ?_
    refine j_aload_n (pc := 560) g 6 dL_law_560 rfl ?_
    refine j_iload (pc := 561) g 1 dL_law_561 rfl ?_
    refine j_iconst (v := 2) (pc := 563) g dL_law_563 (by decide) ?_
    refine j_iadd (pc := 564) g dL_law_564 ?_
    refine j_sld (pc := 565) gl h2 dL_law_565 ?_
    refine j_aload_n (pc := 566) g 6 dL_law_566 rfl ?_
    refine j_iload (pc := 567) g 1 dL_law_567 rfl ?_
    refine j_iconst (v := 3) (pc := 569) g dL_law_569 (by decide) ?_
    refine j_iadd (pc := 570) g dL_law_570 ?_
    refine j_sld (pc := 571) gl h3 dL_law_571 ?_
    refine j_callVi (pc := 572) (na := 3) (As := [.int (xs (i + 1).toNatClampNeg), .int (xs (i + 2).toNatClampNeg), .int (xs (i + 3).toNatClampNeg)]) (rest := []) (q0 := 2) (ci := 10) (w' := ((o, .inl (t 4, 1, .inr (.inl fo))) :: (od, .inl (t 5, 1, .inr (.inr (.inr (.inl fd))))) :: (mC am t σm1 ++ kW aa ad t σk1 []))) g (cX9_issue_ (rs := (o, .inl (t 4, 1, .inr (.inl fo))) :: (od, .inl (t 5, 1, .inr (.inr (.inr (.inl fd))))) :: kW aa ad t σk1 []) hm) q_i_X9_issue q_s_X9_issue rfl rfl rfl q_c_X9_issue q_l_L_171 q_n_X9 (by decide +kernel) rfl ⟨Nat.le_of_ble_eq_true rfl, Nat.le_of_ble_eq_true rfl⟩ ⟨hkk, hnn⟩ (Nat.le_of_ble_eq_true rfl) (lw_pm_m aa ad am t σk1 σm _ _) (lw_pm_m aa ad am t σk1 σm1 _ _).symm dL_law_572 ?_ rfl
    refine j_istore (L' := [(7, .int r), (6, .int 2), (5, .int i), (4, .ref od), (3, .ref o), (2, .ref (am 0)), (1, .ref (ad 0)), (0, .ref b)]) (pc := 575) g dL_law_575 (Nat.le_of_ble_eq_true rfl) rfl ?_
    refine j_aload_n (pc := 577) g 5 dL_law_577 rfl ?_
    refine j_callVi (pc := 578) (na := 0) (As := []) (rest := []) (q0 := 2) (ci := 10) (w' := ((o, .inl (t 4, 1, .inr (.inl fo))) :: (od, .inl (t 5, 1, .inr (.inr (.inr (.inl fd))))) :: (mC am t σm1 ++ kW aa ad t σk1 []))) g (cX9_thrown_ (rs := (o, .inl (t 4, 1, .inr (.inl fo))) :: (od, .inl (t 5, 1, .inr (.inr (.inr (.inl fd))))) :: kW aa ad t σk1 []) rfl) q_i_X9_thrown q_s_X9_thrown rfl rfl rfl q_c_X9_thrown q_l_L_155 q_n_X9 (by decide +kernel) rfl ⟨Nat.le_of_ble_eq_true rfl, Nat.le_of_ble_eq_true rfl⟩ ⟨hkk, hnn⟩ (Nat.le_of_ble_eq_true rfl) (lw_pm_m aa ad am t σk1 σm1 _ _) (lw_pm_m aa ad am t σk1 σm1 _ _).symm dL_law_578 ?_ rfl
    refine j_iload (pc := 581) g 1 dL_law_581 rfl ?_
    refine j_icmp_eq (tgt := 588) (pc := 583) g dL_law_583 (by decide) (fun _ => ?_) (fun h9 => absurd h0 h9)
    refine j_iload (pc := 588) g 1 dL_law_588 rfl ?_
    refine j_if_ne (tgt := 605) (pc := 590) g dL_law_590 (by decide) (fun _ => ?_) (fun h9 => absurd h9 (by decide))
    refine j_goto (tgt := 2781) (pc := 605) g dL_law_605 (by decide) ?_
    refine j_sub (pc := 2781) g [2, 3, 4, 5, 6, 7] rfl ?_
    exact j_widen g (by omega) (by omega) (next σk1 σm1 fo fd hR)
  · refine j_aload_n (pc := 528) g 4 dL_law_528 rfl ?_
    refine j_aload_n (pc := 529) g 5 dL_law_529 rfl ?_
    refine j_iload (pc := 530) g 0 dL_law_530 rfl ?_
    refine j_iconst (v := 1) (pc := 532) g dL_law_532 (by decide) ?_
    refine j_iadd (pc := 533) g dL_law_533 ?_
    refine j_sld (pc := 534) gl h1 dL_law_534 ?_
    refine j_aload_n (pc := 535) g 5 dL_law_535 rfl ?_
    refine j_iload (pc := 536) g 0 dL_law_536 rfl ?_
    refine j_iconst (v := 2) (pc := 538) g dL_law_538 (by decide) ?_
    refine j_iadd (pc := 539) g dL_law_539 ?_
    refine j_sld (pc := 540) gl h2 dL_law_540 ?_
    refine j_aload_n (pc := 541) g 5 dL_law_541 rfl ?_
    refine j_iload (pc := 542) g 0 dL_law_542 rfl ?_
    refine j_iconst (v := 3) (pc := 544) g dL_law_544 (by decide) ?_
    refine j_iadd (pc := 545) g dL_law_545 ?_
    refine j_sld (pc := 546) gl h3 dL_law_546 ?_
    refine j_aload_n (pc := 547) g 2 dL_law_547 rfl ?_
    refine j_callH (pc := 548) (na := 5) (As := [.ref (ad 0), .int (xs (i + 1).toNatClampNeg), .int (xs (i + 2).toNatClampNeg), .int (xs (i + 3).toNatClampNeg), .ref o]) (rest := []) (r := 3) (w' := ((o, .inl (t 4, 1, .inr (.inl fo))) :: (od, .inl (t 5, 1, .inr (.inr (.inr (.inl fd))))) :: (mC am t σm ++ kW aa ad t σk1 []))) g (hL_issue_x3 (rs := (od, .inl (t 5, 1, .inr (.inr (.inr (.inl fd))))) :: mC am t σm) hst hf) q_t_L_issue q_w_L_issue q_l_L_169 q_n_L (by decide) (by decide +kernel) rfl ⟨Nat.le_of_ble_eq_true rfl, Nat.le_of_ble_eq_true rfl⟩ ⟨by omega, by omega⟩ (Nat.le_of_ble_eq_true rfl) (lw_pm_h aa ad am t σk σm _ _) (lw_pm_h aa ad am t σk1 σm _ _).symm dL_law_548 ?_ rfl
    have hkk : k + 1 ≤ room_1.cells := by omega
    have hnn : n + 6 ≤ room_1.slots := by omega
    refine j_istore (L' := [(6, .int 3), (5, .int i), (4, .ref od), (3, .ref o), (2, .ref (am 0)), (1, .ref (ad 0)), (0, .ref b)]) (pc := 551) g dL_law_551 (Nat.le_of_ble_eq_true rfl) rfl ?_
    refine j_aload_n (pc := 553) g 4 dL_law_553 rfl ?_
    refine j_aload_n (pc := 554) g 6 dL_law_554 rfl ?_
    refine j_iload (pc := 555) g 1 dL_law_555 rfl ?_
    refine j_iconst (v := 1) (pc := 557) g dL_law_557 (by decide) ?_
    refine j_iadd (pc := 558) g dL_law_558 ?_
    refine j_sld (pc := 559) gl h1 dL_law_559 ?_
    refine j_aload_n (pc := 560) g 6 dL_law_560 rfl ?_
    refine j_iload (pc := 561) g 1 dL_law_561 rfl ?_
    refine j_iconst (v := 2) (pc := 563) g dL_law_563 (by decide) ?_
    refine j_iadd (pc := 564) g dL_law_564 ?_
    refine j_sld (pc := 565) gl h2 dL_law_565 ?_
    refine j_aload_n (pc := 566) g 6 dL_law_566 rfl ?_
    refine j_iload (pc := 567) g 1 dL_law_567 rfl ?_
    refine j_iconst (v := 3) (pc := 569) g dL_law_569 (by decide) ?_
    refine j_iadd (pc := 570) g dL_law_570 ?_
    refine j_sld (pc := 571) gl h3 dL_law_571 ?_
    refine j_callVi (pc := 572) (na := 3) (As := [.int (xs (i + 1).toNatClampNeg), .int (xs (i + 2).toNatClampNeg), .int (xs (i + 3).toNatClampNeg)]) (rest := []) (q0 := 2) (ci := 10) (w' := ((o, .inl (t 4, 1, .inr (.inl fo))) :: (od, .inl (t 5, 1, .inr (.inr (.inr (.inl fd))))) :: (mC am t σm1 ++ kW aa ad t σk1 []))) g (cX9_issue_ (rs := (o, .inl (t 4, 1, .inr (.inl fo))) :: (od, .inl (t 5, 1, .inr (.inr (.inr (.inl fd))))) :: kW aa ad t σk1 []) hm) q_i_X9_issue q_s_X9_issue rfl rfl rfl q_c_X9_issue q_l_L_171 q_n_X9 (by decide +kernel) rfl ⟨Nat.le_of_ble_eq_true rfl, Nat.le_of_ble_eq_true rfl⟩ ⟨hkk, hnn⟩ (Nat.le_of_ble_eq_true rfl) (lw_pm_m aa ad am t σk1 σm _ _) (lw_pm_m aa ad am t σk1 σm1 _ _).symm dL_law_572 ?_ rfl
    refine j_istore (L' := [(7, .int r), (6, .int 3), (5, .int i), (4, .ref od), (3, .ref o), (2, .ref (am 0)), (1, .ref (ad 0)), (0, .ref b)]) (pc := 575) g dL_law_575 (Nat.le_of_ble_eq_true rfl) rfl ?_
    refine j_aload_n (pc := 577) g 5 dL_law_577 rfl ?_
    refine j_callVi (pc := 578) (na := 0) (As := []) (rest := []) (q0 := 2) (ci := 10) (w' := ((o, .inl (t 4, 1, .inr (.inl fo))) :: (od, .inl (t 5, 1, .inr (.inr (.inr (.inl fd))))) :: (mC am t σm1 ++ kW aa ad t σk1 []))) g (cX9_thrown_ (rs := (o, .inl (t 4, 1, .inr (.inl fo))) :: (od, .inl (t 5, 1, .inr (.inr (.inr (.inl fd))))) :: kW aa ad t σk1 []) rfl) q_i_X9_thrown q_s_X9_thrown rfl rfl rfl q_c_X9_thrown q_l_L_155 q_n_X9 (by decide +kernel) rfl ⟨Nat.le_of_ble_eq_true rfl, Nat.le_of_ble_eq_true rfl⟩ ⟨hkk, hnn⟩ (Nat.le_of_ble_eq_true rfl) (lw_pm_m aa ad am t σk1 σm1 _ _) (lw_pm_m aa ad am t σk1 σm1 _ _).symm dL_law_578 ?_ rfl
    refine j_iload (pc := 581) g 1 dL_law_581 rfl ?_
    refine j_icmp_eq (tgt := 588) (pc := 583) g dL_law_583 (by decide) (fun _ => ?_) (fun h9 => absurd h0 h9)
    refine j_iload (pc := 588) g 1 dL_law_588 rfl ?_
    refine j_if_ne (tgt := 605) (pc := 590) g dL_law_590 (by decide) (fun _ => ?_) (fun h9 => absurd h9 (by decide))
    refine j_goto (tgt := 2781) (pc := 605) g dL_law_605 (by decide) ?_
    refine j_sub (pc := 2781) g [2, 3, 4, 5, 6, 7] rfl ?_
    exact j_widen g (by omega) (by omega) (next σk1 σm1 fo fd hR)
  · refine j_aload_n (pc := 528) g 4 dL_law_528 rfl ?_
    refine j_aload_n (pc := 529) g 5 dL_law_529 rfl ?_
    refine j_iload (pc := 530) g 0 dL_law_530 rfl ?_
    refine j_iconst (v := 1) (pc := 532) g dL_law_532 (by decide) ?_
    refine j_iadd (pc := 533) g dL_law_533 ?_
    refine j_sld (pc := 534) gl h1 dL_law_534 ?_
    refine j_aload_n (pc := 535) g 5 dL_law_535 rfl ?_
    refine j_iload (pc := 536) g 0 dL_law_536 rfl ?_
    refine j_iconst (v := 2) (pc := 538) g dL_law_538 (by decide) ?_
    refine j_iadd (pc := 539) g dL_law_539 ?_
    refine j_sld (pc := 540) gl h2 dL_law_540 ?_
    refine j_aload_n (pc := 541) g 5 dL_law_541 rfl ?_
    refine j_iload (pc := 542) g 0 dL_law_542 rfl ?_
    refine j_iconst (v := 3) (pc := 544) g dL_law_544 (by decide) ?_
    refine j_iadd (pc := 545) g dL_law_545 ?_
    refine j_sld (pc := 546) gl h3 dL_law_546 ?_
    refine j_aload_n (pc := 547) g 2 dL_law_547 rfl ?_
    refine j_callH (pc := 548) (na := 5) (As := [.ref (ad 0), .int (xs (i + 1).toNatClampNeg), .int (xs (i + 2).toNatClampNeg), .int (xs (i + 3).toNatClampNeg), .ref o]) (rest := []) (r := 4) (w' := ((o, .inl (t 4, 1, .inr (.inl fo))) :: (od, .inl (t 5, 1, .inr (.inr (.inr (.inl fd))))) :: (mC am t σm ++ kW aa ad t σk1 []))) g (hL_issue_x4 (rs := (od, .inl (t 5, 1, .inr (.inr (.inr (.inl fd))))) :: mC am t σm) hst hf) q_t_L_issue q_w_L_issue q_l_L_169 q_n_L (by decide) (by decide +kernel) rfl ⟨Nat.le_of_ble_eq_true rfl, Nat.le_of_ble_eq_true rfl⟩ ⟨by omega, by omega⟩ (Nat.le_of_ble_eq_true rfl) (lw_pm_h aa ad am t σk σm _ _) (lw_pm_h aa ad am t σk1 σm _ _).symm dL_law_548 ?_ rfl
    have hkk : k + 1 ≤ room_1.cells := by omega
    have hnn : n + 6 ≤ room_1.slots := by omega
    refine j_istore (L' := [(6, .int 4), (5, .int i), (4, .ref od), (3, .ref o), (2, .ref (am 0)), (1, .ref (ad 0)), (0, .ref b)]) (pc := 551) g dL_law_551 (Nat.le_of_ble_eq_true rfl) rfl ?_
    refine j_aload_n (pc := 553) g 4 dL_law_553 rfl ?_
    refine j_aload_n (pc := 554) g 6 dL_law_554 rfl ?_
    refine j_iload (pc := 555) g 1 dL_law_555 rfl ?_
    refine j_iconst (v := 1) (pc := 557) g dL_law_557 (by decide) ?_
    refine j_iadd (pc := 558) g dL_law_558 ?_
    refine j_sld (pc := 559) gl h1 dL_law_559 ?_
    refine j_aload_n (pc := 560) g 6 dL_law_560 rfl ?_
    refine j_iload (pc := 561) g 1 dL_law_561 rfl ?_
    refine j_iconst (v := 2) (pc := 563) g dL_law_563 (by decide) ?_
    refine j_iadd (pc := 564) g dL_law_564 ?_
    refine j_sld (pc := 565) gl h2 dL_law_565 ?_
    refine j_aload_n (pc := 566) g 6 dL_law_566 rfl ?_
    refine j_iload (pc := 567) g 1 dL_law_567 rfl ?_
    refine j_iconst (v := 3) (pc := 569) g dL_law_569 (by decide) ?_
    refine j_iadd (pc := 570) g dL_law_570 ?_
    refine j_sld (pc := 571) gl h3 dL_law_571 ?_
    refine j_callVi (pc := 572) (na := 3) (As := [.int (xs (i + 1).toNatClampNeg), .int (xs (i + 2).toNatClampNeg), .int (xs (i + 3).toNatClampNeg)]) (rest := []) (q0 := 2) (ci := 10) (w' := ((o, .inl (t 4, 1, .inr (.inl fo))) :: (od, .inl (t 5, 1, .inr (.inr (.inr (.inl fd))))) :: (mC am t σm1 ++ kW aa ad t σk1 []))) g (cX9_issue_ (rs := (o, .inl (t 4, 1, .inr (.inl fo))) :: (od, .inl (t 5, 1, .inr (.inr (.inr (.inl fd))))) :: kW aa ad t σk1 []) hm) q_i_X9_issue q_s_X9_issue rfl rfl rfl q_c_X9_issue q_l_L_171 q_n_X9 (by decide +kernel) rfl ⟨Nat.le_of_ble_eq_true rfl, Nat.le_of_ble_eq_true rfl⟩ ⟨hkk, hnn⟩ (Nat.le_of_ble_eq_true rfl) (lw_pm_m aa ad am t σk1 σm _ _) (lw_pm_m aa ad am t σk1 σm1 _ _).symm dL_law_572 ?_ rfl
    refine j_istore (L' := [(7, .int r), (6, .int 4), (5, .int i), (4, .ref od), (3, .ref o), (2, .ref (am 0)), (1, .ref (ad 0)), (0, .ref b)]) (pc := 575) g dL_law_575 (Nat.le_of_ble_eq_true rfl) rfl ?_
    refine j_aload_n (pc := 577) g 5 dL_law_577 rfl ?_
    refine j_callVi (pc := 578) (na := 0) (As := []) (rest := []) (q0 := 2) (ci := 10) (w' := ((o, .inl (t 4, 1, .inr (.inl fo))) :: (od, .inl (t 5, 1, .inr (.inr (.inr (.inl fd))))) :: (mC am t σm1 ++ kW aa ad t σk1 []))) g (cX9_thrown_ (rs := (o, .inl (t 4, 1, .inr (.inl fo))) :: (od, .inl (t 5, 1, .inr (.inr (.inr (.inl fd))))) :: kW aa ad t σk1 []) rfl) q_i_X9_thrown q_s_X9_thrown rfl rfl rfl q_c_X9_thrown q_l_L_155 q_n_X9 (by decide +kernel) rfl ⟨Nat.le_of_ble_eq_true rfl, Nat.le_of_ble_eq_true rfl⟩ ⟨hkk, hnn⟩ (Nat.le_of_ble_eq_true rfl) (lw_pm_m aa ad am t σk1 σm1 _ _) (lw_pm_m aa ad am t σk1 σm1 _ _).symm dL_law_578 ?_ rfl
    refine j_iload (pc := 581) g 1 dL_law_581 rfl ?_
    refine j_icmp_eq (tgt := 588) (pc := 583) g dL_law_583 (by decide) (fun _ => ?_) (fun h9 => absurd h0 h9)
    refine j_iload (pc := 588) g 1 dL_law_588 rfl ?_
    refine j_if_ne (tgt := 605) (pc := 590) g dL_law_590 (by decide) (fun _ => ?_) (fun h9 => absurd h9 (by decide))
    refine j_goto (tgt := 2781) (pc := 605) g dL_law_605 (by decide) ?_
    refine j_sub (pc := 2781) g [2, 3, 4, 5, 6, 7] rfl ?_
    exact j_widen g (by omega) (by omega) (next σk1 σm1 fo fd hR)
set_option maxRecDepth 100000 in
set_option maxHeartbeats 4000000 in
theorem lw_c5 {D : va_G} {t : Nat → ClassId} {aa : gx_AA} {l : Launch} {J : gx_J} {b Ln : Nat} {xs : Nat → Int32} (gl : gx_GL D t (gx_E0 aa) l room_1 cL_law RL 10 J b Ln xs) (hst : l.stackTraces = false) {k n : Nat} (hk : k + 1 ≤ room_1.cells) (hn : n + 6 ≤ room_1.slots) {i : Int32} (h1 : vp_in (i + 1) Ln) (h2 : vp_in (i + 2) Ln) (h3 : vp_in (i + 3) Ln) {ad am : Nat → Nat} {o od : Nat} {σk : CS} {σm : OS} {fo : Nat → Int64} {fd : Nat → UInt64} {R : CS → OS → Prop} (hag : Ag_passHours R σk σm (xs (i + 1).toNatClampNeg)) (next : ∀ (σk2 : CS) (σm2 : OS) (fo2 : Nat → Int64) (fd2 : Nat → UInt64), R σk2 σm2 → J (k + 1) (n + 6) ((o, .inl (t 4, 1, .inr (.inl fo2))) :: (od, .inl (t 5, 1, .inr (.inr (.inr (.inl fd2))))) :: (mC am t σm2 ++ kW aa ad t σk2 [])) 2781 [(5, .int i), (4, .ref od), (3, .ref o), (2, .ref (am 0)), (1, .ref (ad 0)), (0, .ref b)] []) : J k n ((o, .inl (t 4, 1, .inr (.inl fo))) :: (od, .inl (t 5, 1, .inr (.inr (.inr (.inl fd))))) :: (mC am t σm ++ kW aa ad t σk [])) 608 [(5, .int i), (4, .ref od), (3, .ref o), (2, .ref (am 0)), (1, .ref (ad 0)), (0, .ref b)] [] := by
  have g := gl.g
  have hkk : k ≤ room_1.cells := by omega
  have hnn : n ≤ room_1.slots := by omega
  obtain ⟨r, σm1, hm, hag⟩ := hag
  rcases hag with ⟨σk1, hf, h0, hR⟩ | ⟨σk1, hf, h0, hR⟩
  · refine j_aload_n (pc := 608) g 4 dL_law_608 rfl ?_
    refine j_aload_n (pc := 609) g 5 dL_law_609 rfl ?_
    refine j_iload (pc := 610) g 0 dL_law_610 rfl ?_
    refine j_iconst (v := 1) (pc := 612) g dL_law_612 (by decide) ?_
    refine j_iadd (pc := 613) g dL_law_613 ?_
    refine j_sld (pc := 614) gl h1 dL_law_614 ?_
    refine j_aload_n (pc := 615) g 2 dL_law_615 rfl ?_
    refine j_callH (pc := 616) (na := 3) (As := [.ref (ad 0), .int (xs (i + 1).toNatClampNeg), .ref o]) (rest := []) (r := 0) (w' := ((o, .inl (t 4, 1, .inr (.inl (vp_updL fo (0 : Int32).toNatClampNeg r.toInt64)))) :: (od, .inl (t 5, 1, .inr (.inr (.inr (.inl fd))))) :: (mC am t σm ++ kW aa ad t σk1 []))) g (hL_passHours_ok (rs := (od, .inl (t 5, 1, .inr (.inr (.inr (.inl fd))))) :: mC am t σm) hst hf) q_t_L_passHours q_w_L_passHours q_l_L_172 q_n_L (by decide) (by decide +kernel) rfl ⟨Nat.le_of_ble_eq_true rfl, Nat.le_of_ble_eq_true rfl⟩ ⟨by omega, by omega⟩ (Nat.le_of_ble_eq_true rfl) (lw_pm_h aa ad am t σk σm _ _) (lw_pm_h aa ad am t σk1 σm _ _).symm dL_law_616 ?_ rfl
    have hkk : k + 0 ≤ room_1.cells := by omega
    have hnn : n + 0 ≤ room_1.slots := by omega
    refine j_istore (L' := [(6, .int 0), (5, .int i), (4, .ref od), (3, .ref o), (2, .ref (am 0)), (1, .ref (ad 0)), (0, .ref b)]) (pc := 619) g dL_law_619 (Nat.le_of_ble_eq_true rfl) rfl ?_
    refine j_aload_n (pc := 621) g 4 dL_law_621 rfl ?_
    refine j_aload_n (pc := 622) g 6 dL_law_622 rfl ?_
    refine j_iload (pc := 623) g 1 dL_law_623 rfl ?_
    refine j_iconst (v := 1) (pc := 625) g dL_law_625 (by decide) ?_
    refine j_iadd (pc := 626) g dL_law_626 ?_
    refine j_sld (pc := 627) gl h1 dL_law_627 ?_
    refine j_callVi (pc := 628) (na := 1) (As := [.int (xs (i + 1).toNatClampNeg)]) (rest := []) (q0 := 2) (ci := 10) (w' := ((o, .inl (t 4, 1, .inr (.inl (vp_updL fo (0 : Int32).toNatClampNeg r.toInt64)))) :: (od, .inl (t 5, 1, .inr (.inr (.inr (.inl fd))))) :: (mC am t σm1 ++ kW aa ad t σk1 []))) g (cX9_passHours_ (rs := (o, .inl (t 4, 1, .inr (.inl (vp_updL fo (0 : Int32).toNatClampNeg r.toInt64)))) :: (od, .inl (t 5, 1, .inr (.inr (.inr (.inl fd))))) :: kW aa ad t σk1 []) hm) q_i_X9_passHours q_s_X9_passHours rfl rfl rfl q_c_X9_passHours q_l_L_174 q_n_X9 (by decide +kernel) rfl ⟨Nat.le_of_ble_eq_true rfl, Nat.le_of_ble_eq_true rfl⟩ ⟨hkk, hnn⟩ (Nat.le_of_ble_eq_true rfl) (lw_pm_m aa ad am t σk1 σm _ _) (lw_pm_m aa ad am t σk1 σm1 _ _).symm dL_law_628 ?_ rfl
    refine j_istore (L' := [(7, .int r), (6, .int 0), (5, .int i), (4, .ref od), (3, .ref o), (2, .ref (am 0)), (1, .ref (ad 0)), (0, .ref b)]) (pc := 631) g dL_law_631 (Nat.le_of_ble_eq_true rfl) rfl ?_
    refine j_aload_n (pc := 633) g 5 dL_law_633 rfl ?_
    refine j_callVi (pc := 634) (na := 0) (As := []) (rest := []) (q0 := 2) (ci := 10) (w' := ((o, .inl (t 4, 1, .inr (.inl (vp_updL fo (0 : Int32).toNatClampNeg r.toInt64)))) :: (od, .inl (t 5, 1, .inr (.inr (.inr (.inl fd))))) :: (mC am t σm1 ++ kW aa ad t σk1 []))) g (cX9_thrown_ (rs := (o, .inl (t 4, 1, .inr (.inl (vp_updL fo (0 : Int32).toNatClampNeg r.toInt64)))) :: (od, .inl (t 5, 1, .inr (.inr (.inr (.inl fd))))) :: kW aa ad t σk1 []) rfl) q_i_X9_thrown q_s_X9_thrown rfl rfl rfl q_c_X9_thrown q_l_L_155 q_n_X9 (by decide +kernel) rfl ⟨Nat.le_of_ble_eq_true rfl, Nat.le_of_ble_eq_true rfl⟩ ⟨hkk, hnn⟩ (Nat.le_of_ble_eq_true rfl) (lw_pm_m aa ad am t σk1 σm1 _ _) (lw_pm_m aa ad am t σk1 σm1 _ _).symm dL_law_634 ?_ rfl
    refine j_iload (pc := 637) g 1 dL_law_637 rfl ?_
    refine j_icmp_eq (tgt := 644) (pc := 639) g dL_law_639 (by decide) (fun _ => ?_) (fun h9 => absurd h0 h9)
    refine j_iload (pc := 644) g 1 dL_law_644 rfl ?_
    refine j_if_ne (tgt := 661) (pc := 646) g dL_law_646 (by decide) (fun h9 => absurd rfl h9) (fun _ => ?_)
    refine j_aload_n (pc := 649) g 4 dL_law_649 rfl ?_
    refine j_iconst (v := 0) (pc := 650) g dL_law_650 (by decide) ?_
    refine j_lald (pc := 651) g 0 rfl (show gx_in (0 : Int32) 1 by decide) dL_law_651 ?_
    refine j_iload (pc := 652) g 0 dL_law_652 rfl ?_
    refine j_i2l (pc := 654) g dL_law_654 ?_
    refine j_lcmp (pc := 655) g dL_law_655 ?_
    refine j_if_eq (tgt := 661) (pc := 656) g dL_law_656 (by decide) (fun _ => ?_) (fun h9 => absurd (lw_cmp0 _) h9)
    refine j_goto (tgt := 2781) (pc := 661) g dL_law_661 (by decide) ?_
    refine j_sub (pc := 2781) g [2, 3, 4, 5, 6, 7] rfl ?_
    exact j_widen g (by omega) (by omega) (next σk1 σm1 (vp_updL fo (0 : Int32).toNatClampNeg r.toInt64) fd hR)
  · refine j_aload_n (pc := 608) g 4 dL_law_608 rfl ?_
    refine j_aload_n (pc := 609) g 5 dL_law_609 rfl ?_
    refine j_iload (pc := 610) g 0 dL_law_610 rfl ?_
    refine j_iconst (v := 1) (pc := 612) g dL_law_612 (by decide) ?_
    refine j_iadd (pc := 613) g dL_law_613 ?_
    refine j_sld (pc := 614) gl h1 dL_law_614 ?_
    refine j_aload_n (pc := 615) g 2 dL_law_615 rfl ?_
    refine j_callH (pc := 616) (na := 3) (As := [.ref (ad 0), .int (xs (i + 1).toNatClampNeg), .ref o]) (rest := []) (r := 1) (w' := ((o, .inl (t 4, 1, .inr (.inl fo))) :: (od, .inl (t 5, 1, .inr (.inr (.inr (.inl fd))))) :: (mC am t σm ++ kW aa ad t σk1 []))) g (hL_passHours_x1 (rs := (od, .inl (t 5, 1, .inr (.inr (.inr (.inl fd))))) :: mC am t σm) hst hf) q_t_L_passHours q_w_L_passHours q_l_L_172 q_n_L (by decide) (by decide +kernel) rfl ⟨Nat.le_of_ble_eq_true rfl, Nat.le_of_ble_eq_true rfl⟩ ⟨by omega, by omega⟩ (Nat.le_of_ble_eq_true rfl) (lw_pm_h aa ad am t σk σm _ _) (lw_pm_h aa ad am t σk1 σm _ _).symm dL_law_616 ?_ rfl
    have hkk : k + 1 ≤ room_1.cells := by omega
    have hnn : n + 6 ≤ room_1.slots := by omega
    refine j_istore (L' := [(6, .int 1), (5, .int i), (4, .ref od), (3, .ref o), (2, .ref (am 0)), (1, .ref (ad 0)), (0, .ref b)]) (pc := 619) g dL_law_619 (Nat.le_of_ble_eq_true rfl) rfl ?_
    refine j_aload_n (pc := 621) g 4 dL_law_621 rfl ?_
    refine j_aload_n (pc := 622) g 6 dL_law_622 rfl ?_
    refine j_iload (pc := 623) g 1 dL_law_623 rfl ?_
    refine j_iconst (v := 1) (pc := 625) g dL_law_625 (by decide) ?_
    refine j_iadd (pc := 626) g dL_law_626 ?_
    refine j_sld (pc := 627) gl h1 dL_law_627 ?_
    refine j_callVi (pc := 628) (na := 1) (As := [.int (xs (i + 1).toNatClampNeg)]) (rest := []) (q0 := 2) (ci := 10) (w' := ((o, .inl (t 4, 1, .inr (.inl fo))) :: (od, .inl (t 5, 1, .inr (.inr (.inr (.inl fd))))) :: (mC am t σm1 ++ kW aa ad t σk1 []))) g (cX9_passHours_ (rs := (o, .inl (t 4, 1, .inr (.inl fo))) :: (od, .inl (t 5, 1, .inr (.inr (.inr (.inl fd))))) :: kW aa ad t σk1 []) hm) q_i_X9_passHours q_s_X9_passHours rfl rfl rfl q_c_X9_passHours q_l_L_174 q_n_X9 (by decide +kernel) rfl ⟨Nat.le_of_ble_eq_true rfl, Nat.le_of_ble_eq_true rfl⟩ ⟨hkk, hnn⟩ (Nat.le_of_ble_eq_true rfl) (lw_pm_m aa ad am t σk1 σm _ _) (lw_pm_m aa ad am t σk1 σm1 _ _).symm dL_law_628 ?_ rfl
    refine j_istore (L' := [(7, .int r), (6, .int 1), (5, .int i), (4, .ref od), (3, .ref o), (2, .ref (am 0)), (1, .ref (ad 0)), (0, .ref b)]) (pc := 631) g dL_law_631 (Nat.le_of_ble_eq_true rfl) rfl ?_
    refine j_aload_n (pc := 633) g 5 dL_law_633 rfl ?_
    refine j_callVi (pc := 634) (na := 0) (As := []) (rest := []) (q0 := 2) (ci := 10) (w' := ((o, .inl (t 4, 1, .inr (.inl fo))) :: (od, .inl (t 5, 1, .inr (.inr (.inr (.inl fd))))) :: (mC am t σm1 ++ kW aa ad t σk1 []))) g (cX9_thrown_ (rs := (o, .inl (t 4, 1, .inr (.inl fo))) :: (od, .inl (t 5, 1, .inr (.inr (.inr (.inl fd))))) :: kW aa ad t σk1 []) rfl) q_i_X9_thrown q_s_X9_thrown rfl rfl rfl q_c_X9_thrown q_l_L_155 q_n_X9 (by decide +kernel) rfl ⟨Nat.le_of_ble_eq_true rfl, Nat.le_of_ble_eq_true rfl⟩ ⟨hkk, hnn⟩ (Nat.le_of_ble_eq_true rfl) (lw_pm_m aa ad am t σk1 σm1 _ _) (lw_pm_m aa ad am t σk1 σm1 _ _).symm dL_law_634 ?_ rfl
    refine j_iload (pc := 637) g 1 dL_law_637 rfl ?_
    refine j_icmp_eq (tgt := 644) (pc := 639) g dL_law_639 (by decide) (fun _ => ?_) (fun h9 => absurd h0 h9)
    refine j_iload (pc := 644) g 1 dL_law_644 rfl ?_
    refine j_if_ne (tgt := 661) (pc := 646) g dL_law_646 (by decide) (fun _ => ?_) (fun h9 => absurd h9 (by decide))
    refine j_goto (tgt := 2781) (pc := 661) g dL_law_661 (by decide) ?_
    refine j_sub (pc := 2781) g [2, 3, 4, 5, 6, 7] rfl ?_
    exact j_widen g (by omega) (by omega) (next σk1 σm1 fo fd hR)
set_option maxRecDepth 100000 in
set_option maxHeartbeats 4000000 in
theorem lw_c6 {D : va_G} {t : Nat → ClassId} {aa : gx_AA} {l : Launch} {J : gx_J} {b Ln : Nat} {xs : Nat → Int32} (gl : gx_GL D t (gx_E0 aa) l room_1 cL_law RL 10 J b Ln xs) (hst : l.stackTraces = false) {k n : Nat} (hk : k + 1 ≤ room_1.cells) (hn : n + 6 ≤ room_1.slots) {i : Int32} (h1 : vp_in (i + 1) Ln) (h2 : vp_in (i + 2) Ln) (h3 : vp_in (i + 3) Ln) {ad am : Nat → Nat} {o od : Nat} {σk : CS} {σm : OS} {fo : Nat → Int64} {fd : Nat → UInt64} {R : CS → OS → Prop} (hag : Ag_define R σk σm (((xs (i + 1).toNatClampNeg).toUInt32 % 65536).toInt32) (((xs (i + 2).toNatClampNeg).toUInt32 % 65536).toInt32) (xs (i + 3).toNatClampNeg)) (next : ∀ (σk2 : CS) (σm2 : OS) (fo2 : Nat → Int64) (fd2 : Nat → UInt64), R σk2 σm2 → J (k + 1) (n + 6) ((o, .inl (t 4, 1, .inr (.inl fo2))) :: (od, .inl (t 5, 1, .inr (.inr (.inr (.inl fd2))))) :: (mC am t σm2 ++ kW aa ad t σk2 [])) 2781 [(5, .int i), (4, .ref od), (3, .ref o), (2, .ref (am 0)), (1, .ref (ad 0)), (0, .ref b)] []) : J k n ((o, .inl (t 4, 1, .inr (.inl fo))) :: (od, .inl (t 5, 1, .inr (.inr (.inr (.inl fd))))) :: (mC am t σm ++ kW aa ad t σk [])) 664 [(5, .int i), (4, .ref od), (3, .ref o), (2, .ref (am 0)), (1, .ref (ad 0)), (0, .ref b)] [] := by
  have g := gl.g
  have hkk : k ≤ room_1.cells := by omega
  have hnn : n ≤ room_1.slots := by omega
  obtain ⟨r, σm1, hm, hag⟩ := hag
  rcases hag with ⟨σk1, hf, h0, hR⟩ | ⟨σk1, hf, h0, hR⟩ | ⟨σk1, hf, h0, hR⟩
  · refine j_aload_n (pc := 664) g 4 dL_law_664 rfl ?_
    refine j_aload_n (pc := 665) g 5 dL_law_665 rfl ?_
    refine j_iload (pc := 666) g 0 dL_law_666 rfl ?_
    refine j_iconst (v := 1) (pc := 668) g dL_law_668 (by decide) ?_
    refine j_iadd (pc := 669) g dL_law_669 ?_
    refine j_sld (pc := 670) gl h1 dL_law_670 ?_
    refine j_i2c (pc := 671) g dL_law_671 ?_
    refine j_aload_n (pc := 672) g 5 dL_law_672 rfl ?_
    refine j_iload (pc := 673) g 0 dL_law_673 rfl ?_
    refine j_iconst (v := 2) (pc := 675) g dL_law_675 (by decide) ?_
    refine j_iadd (pc := 676) g dL_law_676 ?_
    refine j_sld (pc := 677) gl h2 dL_law_677 ?_
    refine j_i2c (pc := 678) g dL_law_678 ?_
    refine j_aload_n (pc := 679) g 5 dL_law_679 rfl ?_
    refine j_iload (pc := 680) g 0 dL_law_680 rfl ?_
    refine j_iconst (v := 3) (pc := 682) g dL_law_682 (by decide) ?_
    refine j_iadd (pc := 683) g dL_law_683 ?_
    refine j_sld (pc := 684) gl h3 dL_law_684 ?_
    refine j_aload_n (pc := 685) g 2 dL_law_685 rfl ?_
    refine j_callH (pc := 686) (na := 5) (As := [.ref (ad 0), .int (((xs (i + 1).toNatClampNeg).toUInt32 % 65536).toInt32), .int (((xs (i + 2).toNatClampNeg).toUInt32 % 65536).toInt32), .int (xs (i + 3).toNatClampNeg), .ref o]) (rest := []) (r := 0) (w' := ((o, .inl (t 4, 1, .inr (.inl (vp_updL fo (0 : Int32).toNatClampNeg r.toInt64)))) :: (od, .inl (t 5, 1, .inr (.inr (.inr (.inl fd))))) :: (mC am t σm ++ kW aa ad t σk1 []))) g (hL_define_ok (rs := (od, .inl (t 5, 1, .inr (.inr (.inr (.inl fd))))) :: mC am t σm) hst hf) q_t_L_define q_w_L_define q_l_L_175 q_n_L (by decide) (by decide +kernel) rfl ⟨Nat.le_of_ble_eq_true rfl, Nat.le_of_ble_eq_true rfl⟩ ⟨by omega, by omega⟩ (Nat.le_of_ble_eq_true rfl) (lw_pm_h aa ad am t σk σm _ _) (lw_pm_h aa ad am t σk1 σm _ _).symm dL_law_686 ?_ rfl
    have hkk : k + 0 ≤ room_1.cells := by omega
    have hnn : n + 0 ≤ room_1.slots := by omega
    refine j_istore (L' := [(6, .int 0), (5, .int i), (4, .ref od), (3, .ref o), (2, .ref (am 0)), (1, .ref (ad 0)), (0, .ref b)]) (pc := 689) g dL_law_689 (Nat.le_of_ble_eq_true rfl) rfl ?_
    refine j_aload_n (pc := 691) g 4 dL_law_691 rfl ?_
    refine j_aload_n (pc := 692) g 6 dL_law_692 rfl ?_
    refine j_iload (pc := 693) g 1 dL_law_693 rfl ?_
    refine j_iconst (v := 1) (pc := 695) g dL_law_695 (by decide) ?_
    refine j_iadd (pc := 696) g dL_law_696 ?_
    refine j_sld (pc := 697) gl h1 dL_law_697 ?_
    refine j_i2c (pc := 698) g dL_law_698 ?_
    refine j_aload_n (pc := 699) g 6 dL_law_699 rfl ?_
    refine j_iload (pc := 700) g 1 dL_law_700 rfl ?_
    refine j_iconst (v := 2) (pc := 702) g dL_law_702 (by decide) ?_
    refine j_iadd (pc := 703) g dL_law_703 ?_
    refine j_sld (pc := 704) gl h2 dL_law_704 ?_
    refine j_i2c (pc := 705) g dL_law_705 ?_
    refine j_aload_n (pc := 706) g 6 dL_law_706 rfl ?_
    refine j_iload (pc := 707) g 1 dL_law_707 rfl ?_
    refine j_iconst (v := 3) (pc := 709) g dL_law_709 (by decide) ?_
    refine j_iadd (pc := 710) g dL_law_710 ?_
    refine j_sld (pc := 711) gl h3 dL_law_711 ?_
    refine j_callVi (pc := 712) (na := 3) (As := [.int (((xs (i + 1).toNatClampNeg).toUInt32 % 65536).toInt32), .int (((xs (i + 2).toNatClampNeg).toUInt32 % 65536).toInt32), .int (xs (i + 3).toNatClampNeg)]) (rest := []) (q0 := 2) (ci := 10) (w' := ((o, .inl (t 4, 1, .inr (.inl (vp_updL fo (0 : Int32).toNatClampNeg r.toInt64)))) :: (od, .inl (t 5, 1, .inr (.inr (.inr (.inl fd))))) :: (mC am t σm1 ++ kW aa ad t σk1 []))) g (cX9_define_ (rs := (o, .inl (t 4, 1, .inr (.inl (vp_updL fo (0 : Int32).toNatClampNeg r.toInt64)))) :: (od, .inl (t 5, 1, .inr (.inr (.inr (.inl fd))))) :: kW aa ad t σk1 []) hm) q_i_X9_define q_s_X9_define rfl rfl rfl q_c_X9_define q_l_L_178 q_n_X9 (by decide +kernel) rfl ⟨Nat.le_of_ble_eq_true rfl, Nat.le_of_ble_eq_true rfl⟩ ⟨hkk, hnn⟩ (Nat.le_of_ble_eq_true rfl) (lw_pm_m aa ad am t σk1 σm _ _) (lw_pm_m aa ad am t σk1 σm1 _ _).symm dL_law_712 ?_ rfl
    refine j_istore (L' := [(7, .int r), (6, .int 0), (5, .int i), (4, .ref od), (3, .ref o), (2, .ref (am 0)), (1, .ref (ad 0)), (0, .ref b)]) (pc := 715) g dL_law_715 (Nat.le_of_ble_eq_true rfl) rfl ?_
    refine j_aload_n (pc := 717) g 5 dL_law_717 rfl ?_
    refine j_callVi (pc := 718) (na := 0) (As := []) (rest := []) (q0 := 2) (ci := 10) (w' := ((o, .inl (t 4, 1, .inr (.inl (vp_updL fo (0 : Int32).toNatClampNeg r.toInt64)))) :: (od, .inl (t 5, 1, .inr (.inr (.inr (.inl fd))))) :: (mC am t σm1 ++ kW aa ad t σk1 []))) g (cX9_thrown_ (rs := (o, .inl (t 4, 1, .inr (.inl (vp_updL fo (0 : Int32).toNatClampNeg r.toInt64)))) :: (od, .inl (t 5, 1, .inr (.inr (.inr (.inl fd))))) :: kW aa ad t σk1 []) rfl) q_i_X9_thrown q_s_X9_thrown rfl rfl rfl q_c_X9_thrown q_l_L_155 q_n_X9 (by decide +kernel) rfl ⟨Nat.le_of_ble_eq_true rfl, Nat.le_of_ble_eq_true rfl⟩ ⟨hkk, hnn⟩ (Nat.le_of_ble_eq_true rfl) (lw_pm_m aa ad am t σk1 σm1 _ _) (lw_pm_m aa ad am t σk1 σm1 _ _).symm dL_law_718 ?_ rfl
    refine j_iload (pc := 721) g 1 dL_law_721 rfl ?_
    refine j_icmp_eq (tgt := 728) (pc := 723) g dL_law_723 (by decide) (fun _ => ?_) (fun h9 => absurd h0 h9)
    refine j_iload (pc := 728) g 1 dL_law_728 rfl ?_
    refine j_if_ne (tgt := 745) (pc := 730) g dL_law_730 (by decide) (fun h9 => absurd rfl h9) (fun _ => ?_)
    refine j_aload_n (pc := 733) g 4 dL_law_733 rfl ?_
    refine j_iconst (v := 0) (pc := 734) g dL_law_734 (by decide) ?_
    refine j_lald (pc := 735) g 0 rfl (show gx_in (0 : Int32) 1 by decide) dL_law_735 ?_
    refine j_iload (pc := 736) g 0 dL_law_736 rfl ?_
    refine j_i2l (pc := 738) g dL_law_738 ?_
    refine j_lcmp (pc := 739) g dL_law_739 ?_
    refine j_if_eq (tgt := 745) (pc := 740) g dL_law_740 (by decide) (fun _ => ?_) (fun h9 => absurd (lw_cmp0 _) h9)
    refine j_goto (tgt := 2781) (pc := 745) g dL_law_745 (by decide) ?_
    refine j_sub (pc := 2781) g [2, 3, 4, 5, 6, 7] rfl ?_
    exact j_widen g (by omega) (by omega) (next σk1 σm1 (vp_updL fo (0 : Int32).toNatClampNeg r.toInt64) fd hR)
  · refine j_aload_n (pc := 664) g 4 dL_law_664 rfl ?_
    refine j_aload_n (pc := 665) g 5 dL_law_665 rfl ?_
    refine j_iload (pc := 666) g 0 dL_law_666 rfl ?_
    refine j_iconst (v := 1) (pc := 668) g dL_law_668 (by decide) ?_
    refine j_iadd (pc := 669) g dL_law_669 ?_
    refine j_sld (pc := 670) gl h1 dL_law_670 ?_
    refine j_i2c (pc := 671) g dL_law_671 ?_
    refine j_aload_n (pc := 672) g 5 dL_law_672 rfl ?_
    refine j_iload (pc := 673) g 0 dL_law_673 rfl ?_
    refine j_iconst (v := 2) (pc := 675) g dL_law_675 (by decide) ?_
    refine j_iadd (pc := 676) g dL_law_676 ?_
    refine j_sld (pc := 677) gl h2 dL_law_677 ?_
    refine j_i2c (pc := 678) g dL_law_678 ?_
    refine j_aload_n (pc := 679) g 5 dL_law_679 rfl ?_
    refine j_iload (pc := 680) g 0 dL_law_680 rfl ?_
    refine j_iconst (v := 3) (pc := 682) g dL_law_682 (by decide) ?_
    refine j_iadd (pc := 683) g dL_law_683 ?_
    refine j_sld (pc := 684) gl h3 dL_law_684 ?_
    refine j_aload_n (pc := 685) g 2 dL_law_685 rfl ?_
    refine j_callH (pc := 686) (na := 5) (As := [.ref (ad 0), .int (((xs (i + 1).toNatClampNeg).toUInt32 % 65536).toInt32), .int (((xs (i + 2).toNatClampNeg).toUInt32 % 65536).toInt32), .int (xs (i + 3).toNatClampNeg), .ref o]) (rest := []) (r := 1) (w' := ((o, .inl (t 4, 1, .inr (.inl fo))) :: (od, .inl (t 5, 1, .inr (.inr (.inr (.inl fd))))) :: (mC am t σm ++ kW aa ad t σk1 []))) g (hL_define_x1 (rs := (od, .inl (t 5, 1, .inr (.inr (.inr (.inl fd))))) :: mC am t σm) hst hf) q_t_L_define q_w_L_define q_l_L_175 q_n_L (by decide) (by decide +kernel) rfl ⟨Nat.le_of_ble_eq_true rfl, Nat.le_of_ble_eq_true rfl⟩ ⟨by omega, by omega⟩ (Nat.le_of_ble_eq_true rfl) (lw_pm_h aa ad am t σk σm _ _) (lw_pm_h aa ad am t σk1 σm _ _).symm dL_law_686 ?_ rfl
    have hkk : k + 1 ≤ room_1.cells := by omega
    have hnn : n + 6 ≤ room_1.slots := by omega
    refine j_istore (L' := [(6, .int 1), (5, .int i), (4, .ref od), (3, .ref o), (2, .ref (am 0)), (1, .ref (ad 0)), (0, .ref b)]) (pc := 689) g dL_law_689 (Nat.le_of_ble_eq_true rfl) rfl ?_
    refine j_aload_n (pc := 691) g 4 dL_law_691 rfl ?_
    refine j_aload_n (pc := 692) g 6 dL_law_692 rfl ?_
    refine j_iload (pc := 693) g 1 dL_law_693 rfl ?_
    refine j_iconst (v := 1) (pc := 695) g dL_law_695 (by decide) ?_
    refine j_iadd (pc := 696) g dL_law_696 ?_
    refine j_sld (pc := 697) gl h1 dL_law_697 ?_
    refine j_i2c (pc := 698) g dL_law_698 ?_
    refine j_aload_n (pc := 699) g 6 dL_law_699 rfl ?_
    refine j_iload (pc := 700) g 1 dL_law_700 rfl ?_
    refine j_iconst (v := 2) (pc := 702) g dL_law_702 (by decide) ?_
    refine j_iadd (pc := 703) g dL_law_703 ?_
    refine j_sld (pc := 704) gl h2 dL_law_704 ?_
    refine j_i2c (pc := 705) g dL_law_705 ?_
    refine j_aload_n (pc := 706) g 6 dL_law_706 rfl ?_
    refine j_iload (pc := 707) g 1 dL_law_707 rfl ?_
    refine j_iconst (v := 3) (pc := 709) g dL_law_709 (by decide) ?_
    refine j_iadd (pc := 710) g dL_law_710 ?_
    refine j_sld (pc := 711) gl h3 dL_law_711 ?_
    refine j_callVi (pc := 712) (na := 3) (As := [.int (((xs (i + 1).toNatClampNeg).toUInt32 % 65536).toInt32), .int (((xs (i + 2).toNatClampNeg).toUInt32 % 65536).toInt32), .int (xs (i + 3).toNatClampNeg)]) (rest := []) (q0 := 2) (ci := 10) (w' := ((o, .inl (t 4, 1, .inr (.inl fo))) :: (od, .inl (t 5, 1, .inr (.inr (.inr (.inl fd))))) :: (mC am t σm1 ++ kW aa ad t σk1 []))) g (cX9_define_ (rs := (o, .inl (t 4, 1, .inr (.inl fo))) :: (od, .inl (t 5, 1, .inr (.inr (.inr (.inl fd))))) :: kW aa ad t σk1 []) hm) q_i_X9_define q_s_X9_define rfl rfl rfl q_c_X9_define q_l_L_178 q_n_X9 (by decide +kernel) rfl ⟨Nat.le_of_ble_eq_true rfl, Nat.le_of_ble_eq_true rfl⟩ ⟨hkk, hnn⟩ (Nat.le_of_ble_eq_true rfl) (lw_pm_m aa ad am t σk1 σm _ _) (lw_pm_m aa ad am t σk1 σm1 _ _).symm dL_law_712 ?_ rfl
    refine j_istore (L' := [(7, .int r), (6, .int 1), (5, .int i), (4, .ref od), (3, .ref o), (2, .ref (am 0)), (1, .ref (ad 0)), (0, .ref b)]) (pc := 715) g dL_law_715 (Nat.le_of_ble_eq_true rfl) rfl ?_
    refine j_aload_n (pc := 717) g 5 dL_law_717 rfl ?_
    refine j_callVi (pc := 718) (na := 0) (As := []) (rest := []) (q0 := 2) (ci := 10) (w' := ((o, .inl (t 4, 1, .inr (.inl fo))) :: (od, .inl (t 5, 1, .inr (.inr (.inr (.inl fd))))) :: (mC am t σm1 ++ kW aa ad t σk1 []))) g (cX9_thrown_ (rs := (o, .inl (t 4, 1, .inr (.inl fo))) :: (od, .inl (t 5, 1, .inr (.inr (.inr (.inl fd))))) :: kW aa ad t σk1 []) rfl) q_i_X9_thrown q_s_X9_thrown rfl rfl rfl q_c_X9_thrown q_l_L_155 q_n_X9 (by decide +kernel) rfl ⟨Nat.le_of_ble_eq_true rfl, Nat.le_of_ble_eq_true rfl⟩ ⟨hkk, hnn⟩ (Nat.le_of_ble_eq_true rfl) (lw_pm_m aa ad am t σk1 σm1 _ _) (lw_pm_m aa ad am t σk1 σm1 _ _).symm dL_law_718 ?_ rfl
    refine j_iload (pc := 721) g 1 dL_law_721 rfl ?_
    refine j_icmp_eq (tgt := 728) (pc := 723) g dL_law_723 (by decide) (fun _ => ?_) (fun h9 => absurd h0 h9)
    refine j_iload (pc := 728) g 1 dL_law_728 rfl ?_
    refine j_if_ne (tgt := 745) (pc := 730) g dL_law_730 (by decide) (fun _ => ?_) (fun h9 => absurd h9 (by decide))
    refine j_goto (tgt := 2781) (pc := 745) g dL_law_745 (by decide) ?_
    refine j_sub (pc := 2781) g [2, 3, 4, 5, 6, 7] rfl ?_
    exact j_widen g (by omega) (by omega) (next σk1 σm1 fo fd hR)
  · refine j_aload_n (pc := 664) g 4 dL_law_664 rfl ?_
    refine j_aload_n (pc := 665) g 5 dL_law_665 rfl ?_
    refine j_iload (pc := 666) g 0 dL_law_666 rfl ?_
    refine j_iconst (v := 1) (pc := 668) g dL_law_668 (by decide) ?_
    refine j_iadd (pc := 669) g dL_law_669 ?_
    refine j_sld (pc := 670) gl h1 dL_law_670 ?_
    refine j_i2c (pc := 671) g dL_law_671 ?_
    refine j_aload_n (pc := 672) g 5 dL_law_672 rfl ?_
    refine j_iload (pc := 673) g 0 dL_law_673 rfl ?_
    refine j_iconst (v := 2) (pc := 675) g dL_law_675 (by decide) ?_
    refine j_iadd (pc := 676) g dL_law_676 ?_
    refine j_sld (pc := 677) gl h2 dL_law_677 ?_
    refine j_i2c (pc := 678) g dL_law_678 ?_
    refine j_aload_n (pc := 679) g 5 dL_law_679 rfl ?_
    refine j_iload (pc := 680) g 0 dL_law_680 rfl ?_
    refine j_iconst (v := 3) (pc := 682) g dL_law_682 (by decide) ?_
    refine j_iadd (pc := 683) g dL_law_683 ?_
    refine j_sld (pc := 684) gl h3 dL_law_684 ?_
    refine j_aload_n (pc := 685) g 2 dL_law_685 rfl ?_
    refine j_callH (pc := 686) (na := 5) (As := [.ref (ad 0), .int (((xs (i + 1).toNatClampNeg).toUInt32 % 65536).toInt32), .int (((xs (i + 2).toNatClampNeg).toUInt32 % 65536).toInt32), .int (xs (i + 3).toNatClampNeg), .ref o]) (rest := []) (r := 2) (w' := ((o, .inl (t 4, 1, .inr (.inl fo))) :: (od, .inl (t 5, 1, .inr (.inr (.inr (.inl fd))))) :: (mC am t σm ++ kW aa ad t σk1 []))) g (hL_define_x2 (rs := (od, .inl (t 5, 1, .inr (.inr (.inr (.inl fd))))) :: mC am t σm) hst hf) q_t_L_define q_w_L_define q_l_L_175 q_n_L (by decide) (by decide +kernel) rfl ⟨Nat.le_of_ble_eq_true rfl, Nat.le_of_ble_eq_true rfl⟩ ⟨by omega, by omega⟩ (Nat.le_of_ble_eq_true rfl) (lw_pm_h aa ad am t σk σm _ _) (lw_pm_h aa ad am t σk1 σm _ _).symm dL_law_686 ?_ rfl
    have hkk : k + 1 ≤ room_1.cells := by omega
    have hnn : n + 6 ≤ room_1.slots := by omega
    refine j_istore (L' := [(6, .int 2), (5, .int i), (4, .ref od), (3, .ref o), (2, .ref (am 0)), (1, .ref (ad 0)), (0, .ref b)]) (pc := 689) g dL_law_689 (Nat.le_of_ble_eq_true rfl) rfl ?_
    refine j_aload_n (pc := 691) g 4 dL_law_691 rfl ?_
    refine j_aload_n (pc := 692) g 6 dL_law_692 rfl ?_
    refine j_iload (pc := 693) g 1 dL_law_693 rfl ?_
    refine j_iconst (v := 1) (pc := 695) g dL_law_695 (by decide) ?_
    refine j_iadd (pc := 696) g dL_law_696 ?_
    refine j_sld (pc := 697) gl h1 dL_law_697 ?_
    refine j_i2c (pc := 698) g dL_law_698 ?_
    refine j_aload_n (pc := 699) g 6 dL_law_699 rfl ?_
    refine j_iload (pc := 700) g 1 dL_law_700 rfl ?_
    refine j_iconst (v := 2) (pc := 702) g dL_law_702 (by decide) ?_
    refine j_iadd (pc := 703) g dL_law_703 ?_
    refine j_sld (pc := 704) gl h2 dL_law_704 ?_
    refine j_i2c (pc := 705) g dL_law_705 ?_
    refine j_aload_n (pc := 706) g 6 dL_law_706 rfl ?_
    refine j_iload (pc := 707) g 1 dL_law_707 rfl ?_
    refine j_iconst (v := 3) (pc := 709) g dL_law_709 (by decide) ?_
    refine j_iadd (pc := 710) g dL_law_710 ?_
    refine j_sld (pc := 711) gl h3 dL_law_711 ?_
    refine j_callVi (pc := 712) (na := 3) (As := [.int (((xs (i + 1).toNatClampNeg).toUInt32 % 65536).toInt32), .int (((xs (i + 2).toNatClampNeg).toUInt32 % 65536).toInt32), .int (xs (i + 3).toNatClampNeg)]) (rest := []) (q0 := 2) (ci := 10) (w' := ((o, .inl (t 4, 1, .inr (.inl fo))) :: (od, .inl (t 5, 1, .inr (.inr (.inr (.inl fd))))) :: (mC am t σm1 ++ kW aa ad t σk1 []))) g (cX9_define_ (rs := (o, .inl (t 4, 1, .inr (.inl fo))) :: (od, .inl (t 5, 1, .inr (.inr (.inr (.inl fd))))) :: kW aa ad t σk1 []) hm) q_i_X9_define q_s_X9_define rfl rfl rfl q_c_X9_define q_l_L_178 q_n_X9 (by decide +kernel) rfl ⟨Nat.le_of_ble_eq_true rfl, Nat.le_of_ble_eq_true rfl⟩ ⟨hkk, hnn⟩ (Nat.le_of_ble_eq_true rfl) (lw_pm_m aa ad am t σk1 σm _ _) (lw_pm_m aa ad am t σk1 σm1 _ _).symm dL_law_712 ?_ rfl
    refine j_istore (L' := [(7, .int r), (6, .int 2), (5, .int i), (4, .ref od), (3, .ref o), (2, .ref (am 0)), (1, .ref (ad 0)), (0, .ref b)]) (pc := 715) g dL_law_715 (Nat.le_of_ble_eq_true rfl) rfl ?_
    refine j_aload_n (pc := 717) g 5 dL_law_717 rfl ?_
    refine j_callVi (pc := 718) (na := 0) (As := []) (rest := []) (q0 := 2) (ci := 10) (w' := ((o, .inl (t 4, 1, .inr (.inl fo))) :: (od, .inl (t 5, 1, .inr (.inr (.inr (.inl fd))))) :: (mC am t σm1 ++ kW aa ad t σk1 []))) g (cX9_thrown_ (rs := (o, .inl (t 4, 1, .inr (.inl fo))) :: (od, .inl (t 5, 1, .inr (.inr (.inr (.inl fd))))) :: kW aa ad t σk1 []) rfl) q_i_X9_thrown q_s_X9_thrown rfl rfl rfl q_c_X9_thrown q_l_L_155 q_n_X9 (by decide +kernel) rfl ⟨Nat.le_of_ble_eq_true rfl, Nat.le_of_ble_eq_true rfl⟩ ⟨hkk, hnn⟩ (Nat.le_of_ble_eq_true rfl) (lw_pm_m aa ad am t σk1 σm1 _ _) (lw_pm_m aa ad am t σk1 σm1 _ _).symm dL_law_718 ?_ rfl
    refine j_iload (pc := 721) g 1 dL_law_721 rfl ?_
    refine j_icmp_eq (tgt := 728) (pc := 723) g dL_law_723 (by decide) (fun _ => ?_) (fun h9 => absurd h0 h9)
    refine j_iload (pc := 728) g 1 dL_law_728 rfl ?_
    refine j_if_ne (tgt := 745) (pc := 730) g dL_law_730 (by decide) (fun _ => ?_) (fun h9 => absurd h9 (by decide))
    refine j_goto (tgt := 2781) (pc := 745) g dL_law_745 (by decide) ?_
    refine j_sub (pc := 2781) g [2, 3, 4, 5, 6, 7] rfl ?_
    exact j_widen g (by omega) (by omega) (next σk1 σm1 fo fd hR)
set_option maxRecDepth 100000 in
set_option maxHeartbeats 4000000 in
theorem lw_c7 {D : va_G} {t : Nat → ClassId} {aa : gx_AA} {l : Launch} {J : gx_J} {b Ln : Nat} {xs : Nat → Int32} (gl : gx_GL D t (gx_E0 aa) l room_1 cL_law RL 10 J b Ln xs) (hst : l.stackTraces = false) {k n : Nat} (hk : k + 1 ≤ room_1.cells) (hn : n + 6 ≤ room_1.slots) {i : Int32} (h1 : vp_in (i + 1) Ln) (h2 : vp_in (i + 2) Ln) (h3 : vp_in (i + 3) Ln) {ad am : Nat → Nat} {o od : Nat} {σk : CS} {σm : OS} {fo : Nat → Int64} {fd : Nat → UInt64} {R : CS → OS → Prop} (hag : Ag_erase R σk σm (((xs (i + 1).toNatClampNeg).toUInt32 % 65536).toInt32) (((xs (i + 2).toNatClampNeg).toUInt32 % 65536).toInt32)) (next : ∀ (σk2 : CS) (σm2 : OS) (fo2 : Nat → Int64) (fd2 : Nat → UInt64), R σk2 σm2 → J (k + 1) (n + 6) ((o, .inl (t 4, 1, .inr (.inl fo2))) :: (od, .inl (t 5, 1, .inr (.inr (.inr (.inl fd2))))) :: (mC am t σm2 ++ kW aa ad t σk2 [])) 2781 [(5, .int i), (4, .ref od), (3, .ref o), (2, .ref (am 0)), (1, .ref (ad 0)), (0, .ref b)] []) : J k n ((o, .inl (t 4, 1, .inr (.inl fo))) :: (od, .inl (t 5, 1, .inr (.inr (.inr (.inl fd))))) :: (mC am t σm ++ kW aa ad t σk [])) 748 [(5, .int i), (4, .ref od), (3, .ref o), (2, .ref (am 0)), (1, .ref (ad 0)), (0, .ref b)] [] := by
  have g := gl.g
  have hkk : k ≤ room_1.cells := by omega
  have hnn : n ≤ room_1.slots := by omega
  obtain ⟨r, σm1, hm, hag⟩ := hag
  rcases hag with ⟨σk1, hf, h0, hR⟩ | ⟨σk1, hf, h0, hR⟩ | ⟨σk1, hf, h0, hR⟩
  · refine j_aload_n (pc := 748) g 4 dL_law_748 rfl ?_
    refine j_aload_n (pc := 749) g 5 dL_law_749 rfl ?_
    refine j_iload (pc := 750) g 0 dL_law_750 rfl ?_
    refine j_iconst (v := 1) (pc := 752) g dL_law_752 (by decide) ?_
    refine j_iadd (pc := 753) g dL_law_753 ?_
    refine j_sld (pc := 754) gl h1 dL_law_754 ?_
    refine j_i2c (pc := 755) g dL_law_755 ?_
    refine j_aload_n (pc := 756) g 5 dL_law_756 rfl ?_
    refine j_iload (pc := 757) g 0 dL_law_757 rfl ?_
    refine j_iconst (v := 2) (pc := 759) g dL_law_759 (by decide) ?_
    refine j_iadd (pc := 760) g dL_law_760 ?_
    refine j_sld (pc := 761) gl h2 dL_law_761 ?_
    refine j_i2c (pc := 762) g dL_law_762 ?_
    refine j_aload_n (pc := 763) g 2 dL_law_763 rfl ?_
    refine j_callH (pc := 764) (na := 4) (As := [.ref (ad 0), .int (((xs (i + 1).toNatClampNeg).toUInt32 % 65536).toInt32), .int (((xs (i + 2).toNatClampNeg).toUInt32 % 65536).toInt32), .ref o]) (rest := []) (r := 0) (w' := ((o, .inl (t 4, 1, .inr (.inl (vp_updL fo (0 : Int32).toNatClampNeg r.toInt64)))) :: (od, .inl (t 5, 1, .inr (.inr (.inr (.inl fd))))) :: (mC am t σm ++ kW aa ad t σk1 []))) g (hL_erase_ok (rs := (od, .inl (t 5, 1, .inr (.inr (.inr (.inl fd))))) :: mC am t σm) hst hf) q_t_L_erase q_w_L_erase q_l_L_179 q_n_L (by decide) (by decide +kernel) rfl ⟨Nat.le_of_ble_eq_true rfl, Nat.le_of_ble_eq_true rfl⟩ ⟨by omega, by omega⟩ (Nat.le_of_ble_eq_true rfl) (lw_pm_h aa ad am t σk σm _ _) (lw_pm_h aa ad am t σk1 σm _ _).symm dL_law_764 ?_ rfl
    have hkk : k + 0 ≤ room_1.cells := by omega
    have hnn : n + 0 ≤ room_1.slots := by omega
    refine j_istore (L' := [(6, .int 0), (5, .int i), (4, .ref od), (3, .ref o), (2, .ref (am 0)), (1, .ref (ad 0)), (0, .ref b)]) (pc := 767) g dL_law_767 (Nat.le_of_ble_eq_true rfl) rfl ?_
    refine j_aload_n (pc := 769) g 4 dL_law_769 rfl ?_
    refine j_aload_n (pc := 770) g 6 dL_law_770 rfl ?_
    refine j_iload (pc := 771) g 1 dL_law_771 rfl ?_
    refine j_iconst (v := 1) (pc := 773) g dL_law_773 (by decide) ?_
    refine j_iadd (pc := 774) g dL_law_774 ?_
    refine j_sld (pc := 775) gl h1 dL_law_775 ?_
    refine j_i2c (pc := 776) g dL_law_776 ?_
    refine j_aload_n (pc := 777) g 6 dL_law_777 rfl ?_
    refine j_iload (pc := 778) g 1 dL_law_778 rfl ?_
    refine j_iconst (v := 2) (pc := 780) g dL_law_780 (by decide) ?_
    refine j_iadd (pc := 781) g dL_law_781 ?_
    refine j_sld (pc := 782) gl h2 dL_law_782 ?_
    refine j_i2c (pc := 783) g dL_law_783 ?_
    refine j_callVi (pc := 784) (na := 2) (As := [.int (((xs (i + 1).toNatClampNeg).toUInt32 % 65536).toInt32), .int (((xs (i + 2).toNatClampNeg).toUInt32 % 65536).toInt32)]) (rest := []) (q0 := 2) (ci := 10) (w' := ((o, .inl (t 4, 1, .inr (.inl (vp_updL fo (0 : Int32).toNatClampNeg r.toInt64)))) :: (od, .inl (t 5, 1, .inr (.inr (.inr (.inl fd))))) :: (mC am t σm1 ++ kW aa ad t σk1 []))) g (cX9_erase_ (rs := (o, .inl (t 4, 1, .inr (.inl (vp_updL fo (0 : Int32).toNatClampNeg r.toInt64)))) :: (od, .inl (t 5, 1, .inr (.inr (.inr (.inl fd))))) :: kW aa ad t σk1 []) hm) q_i_X9_erase q_s_X9_erase rfl rfl rfl q_c_X9_erase q_l_L_182 q_n_X9 (by decide +kernel) rfl ⟨Nat.le_of_ble_eq_true rfl, Nat.le_of_ble_eq_true rfl⟩ ⟨hkk, hnn⟩ (Nat.le_of_ble_eq_true rfl) (lw_pm_m aa ad am t σk1 σm _ _) (lw_pm_m aa ad am t σk1 σm1 _ _).symm dL_law_784 ?_ rfl
    refine j_istore (L' := [(7, .int r), (6, .int 0), (5, .int i), (4, .ref od), (3, .ref o), (2, .ref (am 0)), (1, .ref (ad 0)), (0, .ref b)]) (pc := 787) g dL_law_787 (Nat.le_of_ble_eq_true rfl) rfl ?_
    refine j_aload_n (pc := 789) g 5 dL_law_789 rfl ?_
    refine j_callVi (pc := 790) (na := 0) (As := []) (rest := []) (q0 := 2) (ci := 10) (w' := ((o, .inl (t 4, 1, .inr (.inl (vp_updL fo (0 : Int32).toNatClampNeg r.toInt64)))) :: (od, .inl (t 5, 1, .inr (.inr (.inr (.inl fd))))) :: (mC am t σm1 ++ kW aa ad t σk1 []))) g (cX9_thrown_ (rs := (o, .inl (t 4, 1, .inr (.inl (vp_updL fo (0 : Int32).toNatClampNeg r.toInt64)))) :: (od, .inl (t 5, 1, .inr (.inr (.inr (.inl fd))))) :: kW aa ad t σk1 []) rfl) q_i_X9_thrown q_s_X9_thrown rfl rfl rfl q_c_X9_thrown q_l_L_155 q_n_X9 (by decide +kernel) rfl ⟨Nat.le_of_ble_eq_true rfl, Nat.le_of_ble_eq_true rfl⟩ ⟨hkk, hnn⟩ (Nat.le_of_ble_eq_true rfl) (lw_pm_m aa ad am t σk1 σm1 _ _) (lw_pm_m aa ad am t σk1 σm1 _ _).symm dL_law_790 ?_ rfl
    refine j_iload (pc := 793) g 1 dL_law_793 rfl ?_
    refine j_icmp_eq (tgt := 800) (pc := 795) g dL_law_795 (by decide) (fun _ => ?_) (fun h9 => absurd h0 h9)
    refine j_iload (pc := 800) g 1 dL_law_800 rfl ?_
    refine j_if_ne (tgt := 817) (pc := 802) g dL_law_802 (by decide) (fun h9 => absurd rfl h9) (fun _ => ?_)
    refine j_aload_n (pc := 805) g 4 dL_law_805 rfl ?_
    refine j_iconst (v := 0) (pc := 806) g dL_law_806 (by decide) ?_
    refine j_lald (pc := 807) g 0 rfl (show gx_in (0 : Int32) 1 by decide) dL_law_807 ?_
    refine j_iload (pc := 808) g 0 dL_law_808 rfl ?_
    refine j_i2l (pc := 810) g dL_law_810 ?_
    refine j_lcmp (pc := 811) g dL_law_811 ?_
    refine j_if_eq (tgt := 817) (pc := 812) g dL_law_812 (by decide) (fun _ => ?_) (fun h9 => absurd (lw_cmp0 _) h9)
    refine j_goto (tgt := 2781) (pc := 817) g dL_law_817 (by decide) ?_
    refine j_sub (pc := 2781) g [2, 3, 4, 5, 6, 7] rfl ?_
    exact j_widen g (by omega) (by omega) (next σk1 σm1 (vp_updL fo (0 : Int32).toNatClampNeg r.toInt64) fd hR)
  · refine j_aload_n (pc := 748) g 4 dL_law_748 rfl ?_
    refine j_aload_n (pc := 749) g 5 dL_law_749 rfl ?_
    refine j_iload (pc := 750) g 0 dL_law_750 rfl ?_
    refine j_iconst (v := 1) (pc := 752) g dL_law_752 (by decide) ?_
    refine j_iadd (pc := 753) g dL_law_753 ?_
    refine j_sld (pc := 754) gl h1 dL_law_754 ?_
    refine j_i2c (pc := 755) g dL_law_755 ?_
    refine j_aload_n (pc := 756) g 5 dL_law_756 rfl ?_
    refine j_iload (pc := 757) g 0 dL_law_757 rfl ?_
    refine j_iconst (v := 2) (pc := 759) g dL_law_759 (by decide) ?_
    refine j_iadd (pc := 760) g dL_law_760 ?_
    refine j_sld (pc := 761) gl h2 dL_law_761 ?_
    refine j_i2c (pc := 762) g dL_law_762 ?_
    refine j_aload_n (pc := 763) g 2 dL_law_763 rfl ?_
    refine j_callH (pc := 764) (na := 4) (As := [.ref (ad 0), .int (((xs (i + 1).toNatClampNeg).toUInt32 % 65536).toInt32), .int (((xs (i + 2).toNatClampNeg).toUInt32 % 65536).toInt32), .ref o]) (rest := []) (r := 1) (w' := ((o, .inl (t 4, 1, .inr (.inl fo))) :: (od, .inl (t 5, 1, .inr (.inr (.inr (.inl fd))))) :: (mC am t σm ++ kW aa ad t σk1 []))) g (hL_erase_x1 (rs := (od, .inl (t 5, 1, .inr (.inr (.inr (.inl fd))))) :: mC am t σm) hst hf) q_t_L_erase q_w_L_erase q_l_L_179 q_n_L (by decide) (by decide +kernel) rfl ⟨Nat.le_of_ble_eq_true rfl, Nat.le_of_ble_eq_true rfl⟩ ⟨by omega, by omega⟩ (Nat.le_of_ble_eq_true rfl) (lw_pm_h aa ad am t σk σm _ _) (lw_pm_h aa ad am t σk1 σm _ _).symm dL_law_764 ?_ rfl
    have hkk : k + 1 ≤ room_1.cells := by omega
    have hnn : n + 6 ≤ room_1.slots := by omega
    refine j_istore (L' := [(6, .int 1), (5, .int i), (4, .ref od), (3, .ref o), (2, .ref (am 0)), (1, .ref (ad 0)), (0, .ref b)]) (pc := 767) g dL_law_767 (Nat.le_of_ble_eq_true rfl) rfl ?_
    refine j_aload_n (pc := 769) g 4 dL_law_769 rfl ?_
    refine j_aload_n (pc := 770) g 6 dL_law_770 rfl ?_
    refine j_iload (pc := 771) g 1 dL_law_771 rfl ?_
    refine j_iconst (v := 1) (pc := 773) g dL_law_773 (by decide) ?_
    refine j_iadd (pc := 774) g dL_law_774 ?_
    refine j_sld (pc := 775) gl h1 dL_law_775 ?_
    refine j_i2c (pc := 776) g dL_law_776 ?_
    refine j_aload_n (pc := 777) g 6 dL_law_777 rfl ?_
    refine j_iload (pc := 778) g 1 dL_law_778 rfl ?_
    refine j_iconst (v := 2) (pc := 780) g dL_law_780 (by decide) ?_
    refine j_iadd (pc := 781) g dL_law_781 ?_
    refine j_sld (pc := 782) gl h2 dL_law_782 ?_
    refine j_i2c (pc := 783) g dL_law_783 ?_
    refine j_callVi (pc := 784) (na := 2) (As := [.int (((xs (i + 1).toNatClampNeg).toUInt32 % 65536).toInt32), .int (((xs (i + 2).toNatClampNeg).toUInt32 % 65536).toInt32)]) (rest := []) (q0 := 2) (ci := 10) (w' := ((o, .inl (t 4, 1, .inr (.inl fo))) :: (od, .inl (t 5, 1, .inr (.inr (.inr (.inl fd))))) :: (mC am t σm1 ++ kW aa ad t σk1 []))) g (cX9_erase_ (rs := (o, .inl (t 4, 1, .inr (.inl fo))) :: (od, .inl (t 5, 1, .inr (.inr (.inr (.inl fd))))) :: kW aa ad t σk1 []) hm) q_i_X9_erase q_s_X9_erase rfl rfl rfl q_c_X9_erase q_l_L_182 q_n_X9 (by decide +kernel) rfl ⟨Nat.le_of_ble_eq_true rfl, Nat.le_of_ble_eq_true rfl⟩ ⟨hkk, hnn⟩ (Nat.le_of_ble_eq_true rfl) (lw_pm_m aa ad am t σk1 σm _ _) (lw_pm_m aa ad am t σk1 σm1 _ _).symm dL_law_784 ?_ rfl
    refine j_istore (L' := [(7, .int r), (6, .int 1), (5, .int i), (4, .ref od), (3, .ref o), (2, .ref (am 0)), (1, .ref (ad 0)), (0, .ref b)]) (pc := 787) g dL_law_787 (Nat.le_of_ble_eq_true rfl) rfl ?_
    refine j_aload_n (pc := 789) g 5 dL_law_789 rfl ?_
    refine j_callVi (pc := 790) (na := 0) (As := []) (rest := []) (q0 := 2) (ci := 10) (w' := ((o, .inl (t 4, 1, .inr (.inl fo))) :: (od, .inl (t 5, 1, .inr (.inr (.inr (.inl fd))))) :: (mC am t σm1 ++ kW aa ad t σk1 []))) g (cX9_thrown_ (rs := (o, .inl (t 4, 1, .inr (.inl fo))) :: (od, .inl (t 5, 1, .inr (.inr (.inr (.inl fd))))) :: kW aa ad t σk1 []) rfl) q_i_X9_thrown q_s_X9_thrown rfl rfl rfl q_c_X9_thrown q_l_L_155 q_n_X9 (by decide +kernel) rfl ⟨Nat.le_of_ble_eq_true rfl, Nat.le_of_ble_eq_true rfl⟩ ⟨hkk, hnn⟩ (Nat.le_of_ble_eq_true rfl) (lw_pm_m aa ad am t σk1 σm1 _ _) (lw_pm_m aa ad am t σk1 σm1 _ _).symm dL_law_790 ?_ rfl
    refine j_iload (pc := 793) g 1 dL_law_793 rfl ?_
    refine j_icmp_eq (tgt := 800) (pc := 795) g dL_law_795 (by decide) (fun _ => ?_) (fun h9 => absurd h0 h9)
    refine j_iload (pc := 800) g 1 dL_law_800 rfl ?_
    refine j_if_ne (tgt := 817) (pc := 802) g dL_law_802 (by decide) (fun _ => ?_) (fun h9 => absurd h9 (by decide))
    refine j_goto (tgt := 2781) (pc := 817) g dL_law_817 (by decide) ?_
    refine j_sub (pc := 2781) g [2, 3, 4, 5, 6, 7] rfl ?_
    exact j_widen g (by omega) (by omega) (next σk1 σm1 fo fd hR)
  · refine j_aload_n (pc := 748) g 4 dL_law_748 rfl ?_
    refine j_aload_n (pc := 749) g 5 dL_law_749 rfl ?_
    refine j_iload (pc := 750) g 0 dL_law_750 rfl ?_
    refine j_iconst (v := 1) (pc := 752) g dL_law_752 (by decide) ?_
    refine j_iadd (pc := 753) g dL_law_753 ?_
    refine j_sld (pc := 754) gl h1 dL_law_754 ?_
    refine j_i2c (pc := 755) g dL_law_755 ?_
    refine j_aload_n (pc := 756) g 5 dL_law_756 rfl ?_
    refine j_iload (pc := 757) g 0 dL_law_757 rfl ?_
    refine j_iconst (v := 2) (pc := 759) g dL_law_759 (by decide) ?_
    refine j_iadd (pc := 760) g dL_law_760 ?_
    refine j_sld (pc := 761) gl h2 dL_law_761 ?_
    refine j_i2c (pc := 762) g dL_law_762 ?_
    refine j_aload_n (pc := 763) g 2 dL_law_763 rfl ?_
    refine j_callH (pc := 764) (na := 4) (As := [.ref (ad 0), .int (((xs (i + 1).toNatClampNeg).toUInt32 % 65536).toInt32), .int (((xs (i + 2).toNatClampNeg).toUInt32 % 65536).toInt32), .ref o]) (rest := []) (r := 2) (w' := ((o, .inl (t 4, 1, .inr (.inl fo))) :: (od, .inl (t 5, 1, .inr (.inr (.inr (.inl fd))))) :: (mC am t σm ++ kW aa ad t σk1 []))) g (hL_erase_x2 (rs := (od, .inl (t 5, 1, .inr (.inr (.inr (.inl fd))))) :: mC am t σm) hst hf) q_t_L_erase q_w_L_erase q_l_L_179 q_n_L (by decide) (by decide +kernel) rfl ⟨Nat.le_of_ble_eq_true rfl, Nat.le_of_ble_eq_true rfl⟩ ⟨by omega, by omega⟩ (Nat.le_of_ble_eq_true rfl) (lw_pm_h aa ad am t σk σm _ _) (lw_pm_h aa ad am t σk1 σm _ _).symm dL_law_764 ?_ rfl
    have hkk : k + 1 ≤ room_1.cells := by omega
    have hnn : n + 6 ≤ room_1.slots := by omega
    refine j_istore (L' := [(6, .int 2), (5, .int i), (4, .ref od), (3, .ref o), (2, .ref (am 0)), (1, .ref (ad 0)), (0, .ref b)]) (pc := 767) g dL_law_767 (Nat.le_of_ble_eq_true rfl) rfl ?_
    refine j_aload_n (pc := 769) g 4 dL_law_769 rfl ?_
    refine j_aload_n (pc := 770) g 6 dL_law_770 rfl ?_
    refine j_iload (pc := 771) g 1 dL_law_771 rfl ?_
    refine j_iconst (v := 1) (pc := 773) g dL_law_773 (by decide) ?_
    refine j_iadd (pc := 774) g dL_law_774 ?_
    refine j_sld (pc := 775) gl h1 dL_law_775 ?_
    refine j_i2c (pc := 776) g dL_law_776 ?_
    refine j_aload_n (pc := 777) g 6 dL_law_777 rfl ?_
    refine j_iload (pc := 778) g 1 dL_law_778 rfl ?_
    refine j_iconst (v := 2) (pc := 780) g dL_law_780 (by decide) ?_
    refine j_iadd (pc := 781) g dL_law_781 ?_
    refine j_sld (pc := 782) gl h2 dL_law_782 ?_
    refine j_i2c (pc := 783) g dL_law_783 ?_
    refine j_callVi (pc := 784) (na := 2) (As := [.int (((xs (i + 1).toNatClampNeg).toUInt32 % 65536).toInt32), .int (((xs (i + 2).toNatClampNeg).toUInt32 % 65536).toInt32)]) (rest := []) (q0 := 2) (ci := 10) (w' := ((o, .inl (t 4, 1, .inr (.inl fo))) :: (od, .inl (t 5, 1, .inr (.inr (.inr (.inl fd))))) :: (mC am t σm1 ++ kW aa ad t σk1 []))) g (cX9_erase_ (rs := (o, .inl (t 4, 1, .inr (.inl fo))) :: (od, .inl (t 5, 1, .inr (.inr (.inr (.inl fd))))) :: kW aa ad t σk1 []) hm) q_i_X9_erase q_s_X9_erase rfl rfl rfl q_c_X9_erase q_l_L_182 q_n_X9 (by decide +kernel) rfl ⟨Nat.le_of_ble_eq_true rfl, Nat.le_of_ble_eq_true rfl⟩ ⟨hkk, hnn⟩ (Nat.le_of_ble_eq_true rfl) (lw_pm_m aa ad am t σk1 σm _ _) (lw_pm_m aa ad am t σk1 σm1 _ _).symm dL_law_784 ?_ rfl
    refine j_istore (L' := [(7, .int r), (6, .int 2), (5, .int i), (4, .ref od), (3, .ref o), (2, .ref (am 0)), (1, .ref (ad 0)), (0, .ref b)]) (pc := 787) g dL_law_787 (Nat.le_of_ble_eq_true rfl) rfl ?_
    refine j_aload_n (pc := 789) g 5 dL_law_789 rfl ?_
    refine j_callVi (pc := 790) (na := 0) (As := []) (rest := []) (q0 := 2) (ci := 10) (w' := ((o, .inl (t 4, 1, .inr (.inl fo))) :: (od, .inl (t 5, 1, .inr (.inr (.inr (.inl fd))))) :: (mC am t σm1 ++ kW aa ad t σk1 []))) g (cX9_thrown_ (rs := (o, .inl (t 4, 1, .inr (.inl fo))) :: (od, .inl (t 5, 1, .inr (.inr (.inr (.inl fd))))) :: kW aa ad t σk1 []) rfl) q_i_X9_thrown q_s_X9_thrown rfl rfl rfl q_c_X9_thrown q_l_L_155 q_n_X9 (by decide +kernel) rfl ⟨Nat.le_of_ble_eq_true rfl, Nat.le_of_ble_eq_true rfl⟩ ⟨hkk, hnn⟩ (Nat.le_of_ble_eq_true rfl) (lw_pm_m aa ad am t σk1 σm1 _ _) (lw_pm_m aa ad am t σk1 σm1 _ _).symm dL_law_790 ?_ rfl
    refine j_iload (pc := 793) g 1 dL_law_793 rfl ?_
    refine j_icmp_eq (tgt := 800) (pc := 795) g dL_law_795 (by decide) (fun _ => ?_) (fun h9 => absurd h0 h9)
    refine j_iload (pc := 800) g 1 dL_law_800 rfl ?_
    refine j_if_ne (tgt := 817) (pc := 802) g dL_law_802 (by decide) (fun _ => ?_) (fun h9 => absurd h9 (by decide))
    refine j_goto (tgt := 2781) (pc := 817) g dL_law_817 (by decide) ?_
    refine j_sub (pc := 2781) g [2, 3, 4, 5, 6, 7] rfl ?_
    exact j_widen g (by omega) (by omega) (next σk1 σm1 fo fd hR)
