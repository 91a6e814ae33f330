section DZ
variable {D : va_G} {t : Nat → ClassId} {aa : gx_AA} {l : Launch} {J : gx_J} {k n : Nat} {w rs : va_W} {pc : Nat} {L : List (Nat × Value)} {st : List Value} {b : Nat} {cs : List Nat}
theorem zE0 : zE aa (gx_E0 aa) := fun _ _ _ h => h
abbrev sbR : Room := { frames := 40, cells := 900, slots := 5400, locals := 900 }
set_option maxRecDepth 100000 in
theorem jz_new (g : gx_G D t (gx_E0 aa) l sbR cL_does RL 12 J) (hkn : k + 2 ≤ 900 ∧ n + 20 ≤ 5400) (hcat : (st.map fun v => v.category).sum ≤ 6) (h1 : decode cL_does pc = .ok (.new 257, 3)) (h2 : decode cL_does (pc + 3) = .ok (.dup, 1)) (h3 : decode cL_does (pc + 3 + 1) = .ok (.invokespecial 259, 3)) (kk : ∀ (b : Nat) (w' : va_W), zOut t b [] w w' → J (k + 1 + 1) (n + 4 + 16) w' (pc + 3 + 1 + 3) L (.ref b :: st)) : J k n w pc L st := by
  refine j_new g in_J4 tyJ4 tyJ4_ok q_k_L_257 q_in_J4 q_n_J4 (ci := 10) rfl (fs := [.null, .int 0, .int 0, .int 0]) (by decide) (by show k + 1 ≤ 900; omega) (by show n + 4 ≤ 5400; omega) h1 (fun b => ?_)
  refine j_dup g h2 rfl ?_
  refine j_callPI (na := 0) (As := []) (rest := .ref b :: st) g (z_init4 zE0) rfl q_i_J4_init_da8c8 q_c_J4_init_da8c8 q_l_L_259 q_n_J4 (by decide +kernel) rfl ⟨Nat.le_of_ble_eq_true rfl, Nat.le_of_ble_eq_true rfl⟩ ⟨by show k + 1 + 1 ≤ 900; omega, by show n + 4 + 16 ≤ 5400; omega⟩ (by rw [List.map_cons, List.sum_cons]; show 1 + (st.map fun v => v.category).sum ≤ 8; omega) (.refl _) h3 rfl ?_
  rintro r w' ⟨rfl, da, rfl⟩
  exact kk b _ ⟨da, 0, 16, _, rfl, Or.inl rfl, Nat.zero_le _, sb_fit0, fun j hj => absurd hj (Nat.not_lt_zero _)⟩
set_option maxRecDepth 100000 in
theorem jz_S (g : gx_G D t (gx_E0 aa) l sbR cL_does RL 12 J) (hO : zOut t b cs rs w) (i : Nat) {ds : List Nat} (hi : i < 13) (hds : zxs.getD i [] = ds) (h128 : ∀ c ∈ ds, c < 128) (hn : cs.length + ds.length ≤ 34) (hkn : k + 1 ≤ 900 ∧ n + 34 ≤ 5400) (hcat : (st.map fun v => v.category).sum ≤ 8) (hd : decode cL_does pc = .ok (.invokevirtual 262, 3)) (kk : ∀ w', zOut t b (cs ++ ds) rs w' → J (k + 1) (n + 34) w' (pc + 3) L (.ref b :: st)) : J k n w pc L (.ref (aa.1 i) :: .ref b :: st) := by
  obtain ⟨da, ml, M, f, rfl, hM, hl, hf, hT⟩ := hO
  refine j_callPV (na := 1) (As := [.ref (aa.1 i)]) (rest := st) g (gx_CP_of (gx_ES_ok aa _ _ ds) (zxs_es hi hds) (z_appS (rs := rs) h128 hM hl hn hf hT)) (qc := (RJ4, TJ4, 4)) (ci := 10) (q0 := 0) rfl rfl rfl q_i_J4_append_15ec4 q_z_J4_append_15ec4 q_c_J4_append_15ec4 q_l_L_262 q_n_J4 (by decide +kernel) rfl ⟨Nat.le_of_ble_eq_true rfl, Nat.le_of_ble_eq_true rfl⟩ ⟨hkn.1, hkn.2⟩ hcat (.refl _) hd rfl ?_
  rintro r w' ⟨rfl, hO⟩
  exact kk w' hO
set_option maxRecDepth 100000 in
theorem jz_C (g : gx_G D t (gx_E0 aa) l sbR cL_does RL 12 J) (hO : zOut t b cs rs w) {c : Nat} (hc : c < 128) (hn : cs.length + 1 ≤ 34) (hkn : k + 1 ≤ 900 ∧ n + 34 ≤ 5400) (hcat : (st.map fun v => v.category).sum ≤ 8) (hd : decode cL_does pc = .ok (.invokevirtual 266, 3)) (kk : ∀ w', zOut t b (cs ++ [c]) rs w' → J (k + 1) (n + 34) w' (pc + 3) L (.ref b :: st)) : J k n w pc L (.int (nI c) :: .ref b :: st) := by
  obtain ⟨da, ml, M, f, rfl, hM, hl, hf, hT⟩ := hO
  refine j_callPV (na := 1) (As := [.int (nI c)]) (rest := st) g (z_appC (rs := rs) zE0 hc hM hl hn hf hT) (qc := (RJ4, TJ4, 4)) (ci := 10) (q0 := 0) rfl rfl rfl q_i_J4_append_cf468 q_z_J4_append_cf468 q_c_J4_append_cf468 q_l_L_266 q_n_J4 (by decide +kernel) rfl ⟨Nat.le_of_ble_eq_true rfl, Nat.le_of_ble_eq_true rfl⟩ ⟨hkn.1, hkn.2⟩ hcat (.refl _) hd rfl ?_
  rintro r w' ⟨rfl, hO⟩
  exact kk w' hO
set_option maxRecDepth 100000 in
theorem jz_I (g : gx_G D t (gx_E0 aa) l sbR cL_does RL 12 J) (hO : zOut t b cs rs w) {v : Nat} (hv : v < 101) (hn : cs.length + (tx_d v).length ≤ 34) (hkn : k + 1 ≤ 900 ∧ n + 34 ≤ 5400) (hcat : (st.map fun v => v.category).sum ≤ 8) (hd : decode cL_does pc = .ok (.invokevirtual 271, 3)) (kk : ∀ w', zOut t b (cs ++ tx_d v) rs w' → J (k + 1) (n + 34) w' (pc + 3) L (.ref b :: st)) : J k n w pc L (.int (nI v) :: .ref b :: st) := by
  obtain ⟨da, ml, M, f, rfl, hM, hl, hf, hT⟩ := hO
  refine j_callPV (na := 1) (As := [.int (nI v)]) (rest := st) g (z_appI (rs := rs) zE0 hv hM hl hn hf hT) (qc := (RJ4, TJ4, 4)) (ci := 10) (q0 := 0) rfl rfl rfl q_i_J4_append_bf812 q_z_J4_append_bf812 q_c_J4_append_bf812 q_l_L_271 q_n_J4 (by decide +kernel) rfl ⟨Nat.le_of_ble_eq_true rfl, Nat.le_of_ble_eq_true rfl⟩ ⟨hkn.1, hkn.2⟩ hcat (.refl _) hd rfl ?_
  rintro r w' ⟨rfl, hO⟩
  exact kk w' hO
set_option maxRecDepth 100000 in
theorem jz_str (g : gx_G D t (gx_E0 aa) l sbR cL_does RL 12 J) (hO : zOut t b cs rs w) (hkn : k + 2 ≤ 900 ∧ n + 38 ≤ 5400) (hcat : (st.map fun v => v.category).sum ≤ 8) (hd : decode cL_does pc = .ok (.invokevirtual 278, 3)) (kk : ∀ (a q : Nat) (f : Nat → Int32), (∀ j, j < cs.length → f j = nI (cs.getD j 0)) → J (k + 2) (n + 38) (sbS t a q cs.length f rs) (pc + 3) L (.ref a :: st)) : J k n w pc L (.ref b :: st) := by
  obtain ⟨da, ml, M, f, rfl, hM, hl, hf, hT⟩ := hO
  refine j_callPV (na := 0) (As := []) (rest := st) g (z_toString (rs := rs) zE0 hl (by omega) hf) (qc := (RJ4, TJ4, 4)) (ci := 10) (q0 := 0) rfl rfl rfl q_i_J4_toString_0e30d q_z_J4_toString_0e30d q_c_J4_toString_0e30d q_l_L_278 q_n_J4 (by decide +kernel) rfl ⟨Nat.le_of_ble_eq_true rfl, Nat.le_of_ble_eq_true rfl⟩ ⟨hkn.1, hkn.2⟩ hcat (.refl _) hd rfl ?_
  rintro r w' ⟨a, q, f', rfl, rfl, hk⟩
  exact kk a q f' (fun j hj => (hk j hj).trans (hT j hj))
set_option maxRecDepth 100000 in
theorem jz_W (g : gx_G D t (gx_E0 aa) l sbR cL_does RL 12 J) (hO : zOut t b cs rs w) {a q : Nat} {f0 : Nat → Int32} {ds : List Nat} (h0 : ∀ j, j < ds.length → f0 j = nI (ds.getD j 0)) (h128 : ∀ c ∈ ds, c < 128) (hn : cs.length + ds.length ≤ 34) (hkn : k + 1 ≤ 900 ∧ n + 34 ≤ 5400) (hcat : (st.map fun v => v.category).sum ≤ 8) (hd : decode cL_does pc = .ok (.invokevirtual 262, 3)) (kk : ∀ w', zOut t b (cs ++ ds) rs w' → J (k + 1) (n + 34) w' (pc + 3) L (.ref b :: st)) : J k n (sbS t a q ds.length f0 w) pc L (.ref a :: .ref b :: st) := by
  obtain ⟨da, ml, M, f, rfl, hM, hl, hf, hT⟩ := hO
  refine j_callPESv (na := 1) (As := [.ref a]) (rest := st) g (z_appS (rs := rs) h128 hM hl hn hf hT) h0 (qc := (RJ4, TJ4, 4)) (ci := 10) (q0 := 0) rfl rfl rfl q_i_J4_append_15ec4 q_z_J4_append_15ec4 q_c_J4_append_15ec4 q_l_L_262 q_n_J4 (by decide +kernel) rfl ⟨Nat.le_of_ble_eq_true rfl, Nat.le_of_ble_eq_true rfl⟩ ⟨hkn.1, hkn.2⟩ hcat (.refl _) hd rfl ?_
  rintro r w' ⟨rfl, hO⟩
  exact kk w' hO
end DZ
