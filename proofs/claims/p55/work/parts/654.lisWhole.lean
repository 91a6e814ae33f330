theorem lv_meanLoyalty {D : va_G} {t : Nat → ClassId} {aa : gx_AA} {l : Launch} {R : Room} {cc : ByteArray} {nL : Nat} {J : gx_J} {ad : Nat → Nat} {rs w w' : va_W} {κ pc : Nat} {L : List (Nat × Value)} {rest : List Value} (g : gx_G D t (gx_E0 aa) l R cc RL nL J) {M : Nat} (hM : M ≤ R.cells ∧ 6 * M ≤ R.slots) (hk : κ ≤ M) {σ : CS} {q : UInt64} (hf : fX8_meanLoyalty σ = some q) {ci q0 : Nat} {fs : List Value} (hci : ci = 9) (he : w[q0]? = some (ad 0, .inr (9, fs))) (hp : w.Perm (kW aa ad t σ rs)) (hp' : (kW aa ad t σ rs).Perm w') (hR : 1 + 1 ≤ R.frames ∧ 8 + (2 + 11) + 22 ≤ R.locals) (hcat : (rest.map fun v => v.category).sum ≤ 8) (hd : decode cc pc = .ok (.invokevirtual 337, 3)) (kk : J κ (6 * κ) w' (pc + 3) L (.double q :: rest)) : J κ (6 * κ) w pc L (.ref (ad 0) :: rest) := j_callVa (na := 0) (As := []) (ci := 9) g (cX8_meanLoyalty_ (rs := rs) hf) q_i_X8_meanLoyalty q_s_X8_meanLoyalty rfl rfl he q_c_X8_meanLoyalty q_l_L_337 q_n_X8 (by decide +kernel) rfl hR (lk_le hM hk) hcat hp hp' hd kk rfl
theorem lv_flagCount {D : va_G} {t : Nat → ClassId} {aa : gx_AA} {l : Launch} {R : Room} {cc : ByteArray} {nL : Nat} {J : gx_J} {ad : Nat → Nat} {rs w w' : va_W} {κ pc : Nat} {L : List (Nat × Value)} {rest : List Value} (g : gx_G D t (gx_E0 aa) l R cc RL nL J) {M : Nat} (hM : M ≤ R.cells ∧ 6 * M ≤ R.slots) (hk : κ ≤ M) {σ : CS} {q : Int32} (hf : fX8_flagCount σ = some q) {ci q0 : Nat} {fs : List Value} (hci : ci = 9) (he : w[q0]? = some (ad 0, .inr (9, fs))) (hp : w.Perm (kW aa ad t σ rs)) (hp' : (kW aa ad t σ rs).Perm w') (hR : 0 + 1 ≤ R.frames ∧ 8 + (1 + 11) + 0 ≤ R.locals) (hcat : (rest.map fun v => v.category).sum ≤ 8) (hd : decode cc pc = .ok (.invokevirtual 344, 3)) (kk : J κ (6 * κ) w' (pc + 3) L (.int q :: rest)) : J κ (6 * κ) w pc L (.ref (ad 0) :: rest) := j_callVi (na := 0) (As := []) (ci := 9) g (cX8_flagCount_ (rs := rs) hf) q_i_X8_flagCount q_s_X8_flagCount rfl rfl he q_c_X8_flagCount q_l_L_344 q_n_X8 (by decide +kernel) rfl hR (lk_le hM hk) hcat hp hp' hd kk rfl
theorem lv_officerCount {D : va_G} {t : Nat → ClassId} {aa : gx_AA} {l : Launch} {R : Room} {cc : ByteArray} {nL : Nat} {J : gx_J} {ad : Nat → Nat} {rs w w' : va_W} {κ pc : Nat} {L : List (Nat × Value)} {rest : List Value} (g : gx_G D t (gx_E0 aa) l R cc RL nL J) {M : Nat} (hM : M ≤ R.cells ∧ 6 * M ≤ R.slots) (hk : κ ≤ M) {σ : CS} {q : Int32} (hf : fX8_officerCount σ = some q) {ci q0 : Nat} {fs : List Value} (hci : ci = 9) (he : w[q0]? = some (ad 0, .inr (9, fs))) (hp : w.Perm (kW aa ad t σ rs)) (hp' : (kW aa ad t σ rs).Perm w') (hR : 1 + 1 ≤ R.frames ∧ 8 + (1 + 11) + 22 ≤ R.locals) (hcat : (rest.map fun v => v.category).sum ≤ 8) (hd : decode cc pc = .ok (.invokevirtual 201, 3)) (kk : J κ (6 * κ) w' (pc + 3) L (.int q :: rest)) : J κ (6 * κ) w pc L (.ref (ad 0) :: rest) := j_callVi (na := 0) (As := []) (ci := 9) g (cX8_officerCount_ (rs := rs) hf) q_i_X8_officerCount q_s_X8_officerCount rfl rfl he q_c_X8_officerCount q_l_L_201 q_n_X8 (by decide +kernel) rfl hR (lk_le hM hk) hcat hp hp' hd kk rfl
theorem lv_greatestDepth {D : va_G} {t : Nat → ClassId} {aa : gx_AA} {l : Launch} {R : Room} {cc : ByteArray} {nL : Nat} {J : gx_J} {ad : Nat → Nat} {rs w w' : va_W} {κ pc : Nat} {L : List (Nat × Value)} {rest : List Value} (g : gx_G D t (gx_E0 aa) l R cc RL nL J) {M : Nat} (hM : M ≤ R.cells ∧ 6 * M ≤ R.slots) (hk : κ ≤ M) {σ : CS} {q : Int32} (hf : fX8_greatestDepth σ = some q) {ci q0 : Nat} {fs : List Value} (hci : ci = 9) (he : w[q0]? = some (ad 0, .inr (9, fs))) (hp : w.Perm (kW aa ad t σ rs)) (hp' : (kW aa ad t σ rs).Perm w') (hR : 2 + 1 ≤ R.frames ∧ 8 + (1 + 11) + 45 ≤ R.locals) (hcat : (rest.map fun v => v.category).sum ≤ 8) (hd : decode cc pc = .ok (.invokevirtual 347, 3)) (kk : J κ (6 * κ) w' (pc + 3) L (.int q :: rest)) : J κ (6 * κ) w pc L (.ref (ad 0) :: rest) := j_callVi (na := 0) (As := []) (ci := 9) g (cX8_greatestDepth_ (rs := rs) hf) q_i_X8_greatestDepth q_s_X8_greatestDepth rfl rfl he q_c_X8_greatestDepth q_l_L_347 q_n_X8 (by decide +kernel) rfl hR (lk_le hM hk) hcat hp hp' hd kk rfl
theorem lc_officerByRank {D : va_G} {t : Nat → ClassId} {aa : gx_AA} {l : Launch} {R : Room} {cc : ByteArray} {nL : Nat} {J : gx_J} {ad : Nat → Nat} {rs w w' : va_W} {κ pc : Nat} {L : List (Nat × Value)} {rest : List Value} (g : gx_G D t (gx_E0 aa) l R cc RL nL J) {M : Nat} (hM : M ≤ R.cells ∧ 6 * M ≤ R.slots) (hst : l.stackTraces = false) (hk : κ + 1 ≤ M) {σ : CS} {p1 : Int32} {q : (Int32 × CS)} (hf : fL_officerByRank σ p1 = some q) (hp : w.Perm (kW aa ad t σ rs)) (hp' : (kW aa ad t q.2 rs).Perm w') (hR : 7 + 1 ≤ R.frames ∧ 8 + (3 + 11) + 112 ≤ R.locals) (hcat : (rest.map fun v => v.category).sum ≤ 8) (hd : decode cc pc = .ok (.invokestatic 335, 3)) (kk : J (κ + 1) (6 * (κ + 1)) w' (pc + 3) L (.int q.1 :: rest)) : J κ (6 * κ) w pc L (.int p1 :: .ref (ad 0) :: rest) := j_callH (na := 2) (As := [.ref (ad 0), .int p1]) g (hL_officerByRank_ (rs := rs) hst hf) q_t_L_officerByRank q_w_L_officerByRank q_l_L_335 q_n_L (by decide) (by decide +kernel) rfl hR (lk_add hM hk) hcat hp hp' hd kk rfl
theorem lv_isConsistent {D : va_G} {t : Nat → ClassId} {aa : gx_AA} {l : Launch} {R : Room} {cc : ByteArray} {nL : Nat} {J : gx_J} {ad : Nat → Nat} {rs w w' : va_W} {κ pc : Nat} {L : List (Nat × Value)} {rest : List Value} (g : gx_G D t (gx_E0 aa) l R cc RL nL J) {M : Nat} (hM : M ≤ R.cells ∧ 6 * M ≤ R.slots) (hk : κ ≤ M) {σ : CS} {q : Int32} (hf : fX8_isConsistent σ = some q) {ci q0 : Nat} {fs : List Value} (hci : ci = 9) (he : w[q0]? = some (ad 0, .inr (9, fs))) (hp : w.Perm (kW aa ad t σ rs)) (hp' : (kW aa ad t σ rs).Perm w') (hR : 18 + 1 ≤ R.frames ∧ 8 + (2 + 11) + 447 ≤ R.locals) (hcat : (rest.map fun v => v.category).sum ≤ 8) (hd : decode cc pc = .ok (.invokevirtual 350, 3)) (kk : J κ (6 * κ) w' (pc + 3) L (.int q :: rest)) : J κ (6 * κ) w pc L (.ref (ad 0) :: rest) := j_callVi (na := 0) (As := []) (ci := 9) g (cX8_isConsistent_ (rs := rs) hf) q_i_X8_isConsistent q_s_X8_isConsistent rfl rfl he q_c_X8_isConsistent q_l_L_350 q_n_X8 (by decide +kernel) rfl hR (lk_le hM hk) hcat hp hp' hd kk rfl
theorem lc_executedShare {D : va_G} {t : Nat → ClassId} {aa : gx_AA} {l : Launch} {R : Room} {cc : ByteArray} {nL : Nat} {J : gx_J} {ad : Nat → Nat} {rs w w' : va_W} {κ pc : Nat} {L : List (Nat × Value)} {rest : List Value} (g : gx_G D t (gx_E0 aa) l R cc RL nL J) {M : Nat} (hM : M ≤ R.cells ∧ 6 * M ≤ R.slots) (hst : l.stackTraces = false) (hk : κ + 1 ≤ M) {σ : CS} {q : (UInt32 × CS)} (hf : fL_executedShare σ = some q) (hp : w.Perm (kW aa ad t σ rs)) (hp' : (kW aa ad t q.2 rs).Perm w') (hR : 7 + 1 ≤ R.frames ∧ 8 + (2 + 11) + 111 ≤ R.locals) (hcat : (rest.map fun v => v.category).sum ≤ 8) (hd : decode cc pc = .ok (.invokestatic 341, 3)) (kk : J (κ + 1) (6 * (κ + 1)) w' (pc + 3) L (.float q.1 :: rest)) : J κ (6 * κ) w pc L (.ref (ad 0) :: rest) := j_callHf (na := 1) (As := [.ref (ad 0)]) g (hL_executedShare_ (rs := rs) hst hf) q_t_L_executedShare q_w_L_executedShare q_l_L_341 q_n_L (by decide) (by decide +kernel) rfl hR (lk_add hM hk) hcat hp hp' hd kk rfl
theorem lc_pick {D : va_G} {t : Nat → ClassId} {aa : gx_AA} {l : Launch} {R : Room} {cc : ByteArray} {nL : Nat} {J : gx_J} {w : va_W} {κ pc : Nat} {L : List (Nat × Value)} {rest : List Value} (g : gx_G D t (gx_E0 aa) l R cc RL nL J) {M : Nat} (hM : M ≤ R.cells ∧ 6 * M ≤ R.slots) (hxl : xL aa < 2 ^ 31) {k m : Int32} (hk : κ ≤ M ∧ ¬ k < 0 ∧ ¬ m = 0) (hR : 2 ≤ R.frames ∧ 43 ≤ R.locals) (hcat : (rest.map fun v => v.category).sum ≤ 8) (hd : decode cc pc = .ok (.invokestatic 178, 3)) (kk : J κ (6 * κ) w (pc + 3) L (.int (xpick aa k m) :: rest)) : J κ (6 * κ) w pc L (.int m :: .int k :: .ref (xB aa) :: rest) := j_callSi (na := 3) (As := [.ref (xB aa), .int k, .int m]) g (cL_pick_ hxl hk.2.1 hk.2.2) q_t_L_pick q_c_L_pick q_l_L_178 q_n_L (by decide +kernel) rfl hR (lk_le hM hk.1) hcat (.refl _) (.refl _) hd kk rfl
theorem lc_isOfficer {D : va_G} {t : Nat → ClassId} {aa : gx_AA} {l : Launch} {R : Room} {cc : ByteArray} {nL : Nat} {J : gx_J} {ad : Nat → Nat} {rs w w' : va_W} {κ pc : Nat} {L : List (Nat × Value)} {rest : List Value} (g : gx_G D t (gx_E0 aa) l R cc RL nL J) {M : Nat} (hM : M ≤ R.cells ∧ 6 * M ≤ R.slots) (hst : l.stackTraces = false) (hxl : xL aa < 2 ^ 31) (hk : κ + 420 ≤ M) {σ : CS} {p1 : Int32} {p2 : Int32} {q : (Int32 × LwS)} (hf : fL_isOfficer aa σ p1 p2 = some q) (hp : w.Perm (kW aa ad t σ rs)) (hp' : (kW aa ad t q.2.1 rs).Perm w') (hR : 21 + 1 ≤ R.frames ∧ 8 + (8 + 11) + 510 ≤ R.locals) (hcat : (rest.map fun v => v.category).sum ≤ 8) (hd : decode cc pc = .ok (.invokestatic 331, 3)) (kk : J (κ + 420) (6 * (κ + 420)) w' (pc + 3) L (.int q.1 :: rest)) : J κ (6 * κ) w pc L (.int p2 :: .int p1 :: .ref (ad 0) :: rest) := j_callMi (na := 3) (As := [.ref (ad 0), .int p1, .int p2]) g (cL_isOfficer_ (rs := rs) hst hxl hf) q_t_L_isOfficer q_c_L_isOfficer q_l_L_331 q_n_L (by decide +kernel) rfl hR (lk_cap hM hk) hcat hp hp' hd (by rw [Nat.mul_add] at kk; exact kk) rfl
set_option maxRecDepth 100000 in
set_option maxHeartbeats 8000000 in
theorem tL_isWhole_79 {D : va_G} {t : Nat → ClassId} {aa : gx_AA} {l : Launch} {J : gx_J} {ad : Nat → Nat} {rs : va_W} {k18 : LwS → Int32 → Int32 → Int32 → Int32 → Int32 → Int32 → Int32 → Option (Int32 × LwS)} {q : (Int32 × LwS)} (hst : l.stackTraces = false) (hxl : xL aa < 2 ^ 31) (g : gx_G D t (gx_E0 aa) l ({ frames := 22, cells := 5600, slots := 33600, locals := 537 }) cL_isWhole RL 11 J) (hE : ∀ (v : Int32) (σ : LwS) (pc : Nat) (L : List (Nat × Value)), some (v, σ) = some q → σ.2 ≤ 5600 → decode cL_isWhole pc = .ok (.ireturn, 1) → narrow .boolean (.int v) = .int v → J σ.2 (6 * σ.2) (kW aa ad t σ.1 rs) pc L [.int v]) (hk18 : ∀ (σ : LwS) (v2 : Int32) (v3 : Int32) (v4 : Int32) (v5 : Int32) (v6 : Int32) (v7 : Int32) (v8 : Int32), k18 σ v2 v3 v4 v5 v6 v7 v8 = some q → J σ.2 (6 * σ.2) (kW aa ad t σ.1 rs) 18 [(0, .ref (ad 0)), (1, .ref (xB aa)), (2, .int v2), (3, .int v3), (4, .int v4), (5, .int v5), (6, .int v6), (7, .int v7), (8, .int v8)] []) : ∀ (σ : LwS) (v2 : Int32) (v3 : Int32) (v4 : Int32) (v5 : Int32) (v6 : Int32) (v7 : Int32) (v8 : Int32), fL_isWhole_79 aa k18 σ v2 v3 v4 v5 v6 v7 v8 = some q → J σ.2 (6 * σ.2) (kW aa ad t σ.1 rs) 79 [(0, .ref (ad 0)), (1, .ref (xB aa)), (2, .int v2), (3, .int v3), (4, .int v4), (5, .int v5), (6, .int v6), (7, .int v7), (8, .int v8)] [] := by
  intro σ v2 v3 v4 v5 v6 v7 v8 hf
  unfold fL_isWhole_79 at hf
  refine j_aload_n (pc := 79) g 0 dL_isWhole_79 rfl ?_
  refine j_iload (pc := 80) g 8 dL_isWhole_80 rfl ?_
  refine j_aload_n (pc := 82) g 1 dL_isWhole_82 rfl ?_
  refine j_iload_n (pc := 83) g 2 dL_isWhole_83 rfl ?_
  refine j_iconst (v := 2) (pc := 84) g dL_isWhole_84 (by decide) ?_
  refine j_iadd (pc := 85) g dL_isWhole_85 ?_
  refine j_bipush (v := 101) (pc := 86) g dL_isWhole_86 (by decide) ?_
  obtain ⟨h_88, hf⟩ := gx_ck hf
  refine lc_pick (pc := 88) g (M := 5600) ⟨(Nat.le_of_ble_eq_true rfl), (Nat.le_of_ble_eq_true rfl)⟩ hxl h_88 ⟨(Nat.le_of_ble_eq_true rfl), (Nat.le_of_ble_eq_true rfl)⟩ (Nat.le_of_ble_eq_true rfl) dL_isWhole_88 ?_
  obtain ⟨k_91, hf⟩ := gx_ck hf
  obtain ⟨r91, h_91, hf⟩ := gx_bs hf
  refine lc_isOfficer (pc := 91) g (M := 5600) ⟨(Nat.le_of_ble_eq_true rfl), (Nat.le_of_ble_eq_true rfl)⟩ hst hxl k_91 h_91 (.refl _) (.refl _) ⟨(Nat.le_of_ble_eq_true rfl), (Nat.le_of_ble_eq_true rfl)⟩ (Nat.le_of_ble_eq_true rfl) dL_isWhole_91 ?_
  refine j_if_ne (tgt := 123) (pc := 94) g dL_isWhole_94 (by decide) (fun c_94 => ?_) (fun c_94 => ?_)
  · have hf := gx_if c_94 hf
    refine j_iinc (v := v8 + 1) (L' := [(8, .int (v8 + 1)), (0, .ref (ad 0)), (1, .ref (xB aa)), (2, .int v2), (3, .int v3), (4, .int v4), (5, .int v5), (6, .int v6), (7, .int v7)]) (pc := 123) g 8 dL_isWhole_123 rfl rfl (Nat.le_of_ble_eq_true rfl) rfl ?_
    refine j_goto (tgt := 18) (pc := 126) g dL_isWhole_126 (by decide) ?_
    refine j_sub (pc := 18) g [1, 2, 3, 4, 5, 6, 7, 8, 0] rfl ?_
    exact hk18 (r91.2.1, σ.2 + 420) v2 v3 v4 v5 v6 v7 (v8 + 1) hf
  · have hf := gx_it c_94 hf
    refine j_iconst (v := 0) (pc := 97) g dL_isWhole_97 (by decide) ?_
    obtain ⟨h_k, hf⟩ := gx_ck hf
    exact hE _ _ _ _ hf h_k dL_isWhole_98 rfl
set_option maxRecDepth 100000 in
set_option maxHeartbeats 8000000 in
theorem tL_isWhole_401 {D : va_G} {t : Nat → ClassId} {aa : gx_AA} {l : Launch} {J : gx_J} {ad : Nat → Nat} {rs : va_W} {q : (Int32 × LwS)} (hst : l.stackTraces = false) (hxl : xL aa < 2 ^ 31) (g : gx_G D t (gx_E0 aa) l ({ frames := 22, cells := 5600, slots := 33600, locals := 537 }) cL_isWhole RL 11 J) (hE : ∀ (v : Int32) (σ : LwS) (pc : Nat) (L : List (Nat × Value)), some (v, σ) = some q → σ.2 ≤ 5600 → decode cL_isWhole pc = .ok (.ireturn, 1) → narrow .boolean (.int v) = .int v → J σ.2 (6 * σ.2) (kW aa ad t σ.1 rs) pc L [.int v])  : ∀ (σ : LwS) (v3 : Int32) (v5 : Int32) (v7 : Int32) (v8 : Int32) (v10 : Int32), fL_isWhole_401 aa σ v3 v5 v7 v8 v10 = some q → J σ.2 (6 * σ.2) (kW aa ad t σ.1 rs) 401 [(0, .ref (ad 0)), (3, .int v3), (5, .int v5), (7, .int v7), (8, .int v8), (10, .int v10)] [] := by
  intro σ v3 v5 v7 v8 v10 hf
  unfold fL_isWhole_401 at hf
  refine j_iload (pc := 401) g 5 dL_isWhole_401 rfl ?_
  refine j_if_eq (tgt := 485) (pc := 403) g dL_isWhole_403 (by decide) (fun c_403 => ?_) (fun c_403 => ?_)
  · have hf := gx_it c_403 hf
    refine j_iconst (v := 0) (pc := 485) g dL_isWhole_485 (by decide) ?_
    obtain ⟨h_k, hf⟩ := gx_ck hf
    exact hE _ _ _ _ hf h_k dL_isWhole_486 rfl
  · have hf := gx_if c_403 hf
    refine j_iload (pc := 406) g 4 dL_isWhole_406 rfl ?_
    refine j_aload_n (pc := 408) g 0 dL_isWhole_408 rfl ?_
    obtain ⟨k_409, hf⟩ := gx_ck hf
    obtain ⟨r409, h_409, hf⟩ := gx_bs hf
    refine lv_flagCount (pc := 409) g (M := 5600) ⟨(Nat.le_of_ble_eq_true rfl), (Nat.le_of_ble_eq_true rfl)⟩ k_409 h_409 (q0 := 0) rfl rfl (.refl _) (.refl _) ⟨(Nat.le_of_ble_eq_true rfl), (Nat.le_of_ble_eq_true rfl)⟩ (Nat.le_of_ble_eq_true rfl) dL_isWhole_409 ?_
    refine j_icmp_ne (tgt := 485) (pc := 412) g dL_isWhole_412 (by decide) (fun c_412 => ?_) (fun c_412 => ?_)
    · have hf := gx_if c_412 hf
      refine j_iconst (v := 0) (pc := 485) g dL_isWhole_485 (by decide) ?_
      obtain ⟨h_k, hf⟩ := gx_ck hf
      exact hE _ _ _ _ hf h_k dL_isWhole_486 rfl
    · have hf := gx_it c_412 hf
      refine j_iload (pc := 415) g 4 dL_isWhole_415 rfl ?_
      refine j_bipush (v := 20) (pc := 417) g dL_isWhole_417 (by decide) ?_
      refine j_icmp_gt (tgt := 485) (pc := 419) g dL_isWhole_419 (by decide) (fun c_419 => ?_) (fun c_419 => ?_)
      · have hf := gx_it c_419 hf
        refine j_iconst (v := 0) (pc := 485) g dL_isWhole_485 (by decide) ?_
        obtain ⟨h_k, hf⟩ := gx_ck hf
        exact hE _ _ _ _ hf h_k dL_isWhole_486 rfl
      · have hf := gx_if c_419 hf
        refine j_aload_n (pc := 422) g 0 dL_isWhole_422 rfl ?_
        obtain ⟨k_423, hf⟩ := gx_ck hf
        obtain ⟨r423, h_423, hf⟩ := gx_bs hf
        refine lv_officerCount (pc := 423) g (M := 5600) ⟨(Nat.le_of_ble_eq_true rfl), (Nat.le_of_ble_eq_true rfl)⟩ k_423 h_423 (q0 := 0) rfl rfl (.refl _) (.refl _) ⟨(Nat.le_of_ble_eq_true rfl), (Nat.le_of_ble_eq_true rfl)⟩ (Nat.le_of_ble_eq_true rfl) dL_isWhole_423 ?_
        refine j_iload (pc := 426) g 2 dL_isWhole_426 rfl ?_
        refine j_icmp_ne (tgt := 485) (pc := 428) g dL_isWhole_428 (by decide) (fun c_428 => ?_) (fun c_428 => ?_)
        · have hf := gx_if c_428 hf
          refine j_iconst (v := 0) (pc := 485) g dL_isWhole_485 (by decide) ?_
          obtain ⟨h_k, hf⟩ := gx_ck hf
          exact hE _ _ _ _ hf h_k dL_isWhole_486 rfl
        · have hf := gx_it c_428 hf
          refine j_aload_n (pc := 431) g 0 dL_isWhole_431 rfl ?_
          refine j_iconst (v := 0) (pc := 432) g dL_isWhole_432 (by decide) ?_
          obtain ⟨k_433, hf⟩ := gx_ck hf
          obtain ⟨r433, h_433, hf⟩ := gx_bs hf
          refine lc_commandSize (pc := 433) g (M := 5600) ⟨(Nat.le_of_ble_eq_true rfl), (Nat.le_of_ble_eq_true rfl)⟩ hst k_433 h_433 (.refl _) (.refl _) ⟨(Nat.le_of_ble_eq_true rfl), (Nat.le_of_ble_eq_true rfl)⟩ (Nat.le_of_ble_eq_true rfl) dL_isWhole_433 ?_
          refine j_iload (pc := 436) g 2 dL_isWhole_436 rfl ?_
          refine j_icmp_ne (tgt := 485) (pc := 438) g dL_isWhole_438 (by decide) (fun c_438 => ?_) (fun c_438 => ?_)
          · have hf := gx_if c_438 hf
            refine j_iconst (v := 0) (pc := 485) g dL_isWhole_485 (by decide) ?_
            obtain ⟨h_k, hf⟩ := gx_ck hf
            exact hE _ _ _ _ hf h_k dL_isWhole_486 rfl
          · have hf := gx_it c_438 hf
            refine j_aload_n (pc := 441) g 0 dL_isWhole_441 rfl ?_
            obtain ⟨k_442, hf⟩ := gx_ck hf
            obtain ⟨r442, h_442, hf⟩ := gx_bs hf
            refine lv_greatestDepth (pc := 442) g (M := 5600) ⟨(Nat.le_of_ble_eq_true rfl), (Nat.le_of_ble_eq_true rfl)⟩ k_442 h_442 (q0 := 0) rfl rfl (.refl _) (.refl _) ⟨(Nat.le_of_ble_eq_true rfl), (Nat.le_of_ble_eq_true rfl)⟩ (Nat.le_of_ble_eq_true rfl) dL_isWhole_442 ?_
            refine j_iload (pc := 445) g 3 dL_isWhole_445 rfl ?_
            refine j_icmp_ne (tgt := 485) (pc := 447) g dL_isWhole_447 (by decide) (fun c_447 => ?_) (fun c_447 => ?_)
            · have hf := gx_if c_447 hf
              refine j_iconst (v := 0) (pc := 485) g dL_isWhole_485 (by decide) ?_
              obtain ⟨h_k, hf⟩ := gx_ck hf
              exact hE _ _ _ _ hf h_k dL_isWhole_486 rfl
            · have hf := gx_it c_447 hf
              refine j_aload_n (pc := 450) g 0 dL_isWhole_450 rfl ?_
              obtain ⟨k_451, hf⟩ := gx_ck hf
              obtain ⟨r451, h_451, hf⟩ := gx_bs hf
              refine lv_orderCount (pc := 451) g (M := 5600) ⟨(Nat.le_of_ble_eq_true rfl), (Nat.le_of_ble_eq_true rfl)⟩ k_451 h_451 (q0 := 0) rfl rfl (.refl _) (.refl _) ⟨(Nat.le_of_ble_eq_true rfl), (Nat.le_of_ble_eq_true rfl)⟩ (Nat.le_of_ble_eq_true rfl) dL_isWhole_451 ?_
              refine j_bipush (v := 6) (pc := 454) g dL_isWhole_454 (by decide) ?_
              refine j_icmp_gt (tgt := 485) (pc := 456) g dL_isWhole_456 (by decide) (fun c_456 => ?_) (fun c_456 => ?_)
              · have hf := gx_it c_456 hf
                refine j_iconst (v := 0) (pc := 485) g dL_isWhole_485 (by decide) ?_
                obtain ⟨h_k, hf⟩ := gx_ck hf
                exact hE _ _ _ _ hf h_k dL_isWhole_486 rfl
              · have hf := gx_if c_456 hf
                refine j_aload_n (pc := 459) g 0 dL_isWhole_459 rfl ?_
                refine j_iload (pc := 460) g 2 dL_isWhole_460 rfl ?_
                obtain ⟨k_462, hf⟩ := gx_ck hf
                obtain ⟨r462, h_462, hf⟩ := gx_bs hf
                refine lc_officerByRank (pc := 462) g (M := 5600) ⟨(Nat.le_of_ble_eq_true rfl), (Nat.le_of_ble_eq_true rfl)⟩ hst k_462 h_462 (.refl _) (.refl _) ⟨(Nat.le_of_ble_eq_true rfl), (Nat.le_of_ble_eq_true rfl)⟩ (Nat.le_of_ble_eq_true rfl) dL_isWhole_462 ?_
                refine j_bipush (v := -75) (pc := 465) g dL_isWhole_465 (by decide) ?_
                refine j_icmp_ne (tgt := 485) (pc := 467) g dL_isWhole_467 (by decide) (fun c_467 => ?_) (fun c_467 => ?_)
                · have hf := gx_if c_467 hf
                  refine j_iconst (v := 0) (pc := 485) g dL_isWhole_485 (by decide) ?_
                  obtain ⟨h_k, hf⟩ := gx_ck hf
                  exact hE _ _ _ _ hf h_k dL_isWhole_486 rfl
                · have hf := gx_it c_467 hf
                  refine j_iload_n (pc := 470) g 1 dL_isWhole_470 rfl ?_
                  refine j_if_eq (tgt := 481) (pc := 471) g dL_isWhole_471 (by decide) (fun c_471 => ?_) (fun c_471 => ?_)
                  · have hf := gx_it c_471 hf
                    refine j_iconst (v := 1) (pc := 481) g dL_isWhole_481 (by decide) ?_
                    refine j_goto (tgt := 486) (pc := 482) g dL_isWhole_482 (by decide) ?_
                    obtain ⟨h_k, hf⟩ := gx_ck hf
                    exact hE _ _ _ _ hf h_k dL_isWhole_486 rfl
                  · have hf := gx_if c_471 hf
                    refine j_aload_n (pc := 474) g 0 dL_isWhole_474 rfl ?_
                    obtain ⟨k_475, hf⟩ := gx_ck hf
                    obtain ⟨r475, h_475, hf⟩ := gx_bs hf
                    refine lv_isConsistent (pc := 475) g (M := 5600) ⟨(Nat.le_of_ble_eq_true rfl), (Nat.le_of_ble_eq_true rfl)⟩ k_475 h_475 (q0 := 0) rfl rfl (.refl _) (.refl _) ⟨(Nat.le_of_ble_eq_true rfl), (Nat.le_of_ble_eq_true rfl)⟩ (Nat.le_of_ble_eq_true rfl) dL_isWhole_475 ?_
                    refine j_if_eq (tgt := 485) (pc := 478) g dL_isWhole_478 (by decide) (fun c_478 => ?_) (fun c_478 => ?_)
                    · have hf := gx_it c_478 hf
                      refine j_iconst (v := 0) (pc := 485) g dL_isWhole_485 (by decide) ?_
                      obtain ⟨h_k, hf⟩ := gx_ck hf
                      exact hE _ _ _ _ hf h_k dL_isWhole_486 rfl
                    · have hf := gx_if c_478 hf
                      refine j_iconst (v := 1) (pc := 481) g dL_isWhole_481 (by decide) ?_
                      refine j_goto (tgt := 486) (pc := 482) g dL_isWhole_482 (by decide) ?_
                      obtain ⟨h_k, hf⟩ := gx_ck hf
                      exact hE _ _ _ _ hf h_k dL_isWhole_486 rfl
set_option maxRecDepth 100000 in
set_option maxHeartbeats 8000000 in
theorem tL_isWhole_398 {D : va_G} {t : Nat → ClassId} {aa : gx_AA} {l : Launch} {J : gx_J} {ad : Nat → Nat} {rs : va_W} {q : (Int32 × LwS)} (hst : l.stackTraces = false) (hxl : xL aa < 2 ^ 31) (g : gx_G D t (gx_E0 aa) l ({ frames := 22, cells := 5600, slots := 33600, locals := 537 }) cL_isWhole RL 11 J) (hE : ∀ (v : Int32) (σ : LwS) (pc : Nat) (L : List (Nat × Value)), some (v, σ) = some q → σ.2 ≤ 5600 → decode cL_isWhole pc = .ok (.ireturn, 1) → narrow .boolean (.int v) = .int v → J σ.2 (6 * σ.2) (kW aa ad t σ.1 rs) pc L [.int v])  : ∀ (σ : LwS) (v3 : Int32) (v5 : Int32) (v7 : Int32) (v8 : Int32), fL_isWhole_398 aa σ v3 v5 v7 v8 = some q → J σ.2 (6 * σ.2) (kW aa ad t σ.1 rs) 398 [(0, .ref (ad 0)), (3, .int v3), (5, .int v5), (7, .int v7), (8, .int v8)] [] := by
  intro σ v3 v5 v7 v8 hf
  unfold fL_isWhole_398 at hf
  refine j_iconst (v := 0) (pc := 398) g dL_isWhole_398 (by decide) ?_
  refine j_istore (L' := [(10, .int (0 : Int32)), (0, .ref (ad 0)), (3, .int v3), (5, .int v5), (7, .int v7), (8, .int v8)]) (pc := 399) g dL_isWhole_399 (Nat.le_of_ble_eq_true rfl) rfl ?_
  refine j_sub (pc := 401) g [1, 2, 3, 4, 5, 0] rfl ?_
  exact tL_isWhole_401 hst hxl g hE σ v3 v5 v7 v8 (0 : Int32) hf
set_option maxRecDepth 100000 in
set_option maxHeartbeats 8000000 in
theorem tL_isWhole_312 {D : va_G} {t : Nat → ClassId} {aa : gx_AA} {l : Launch} {J : gx_J} {ad : Nat → Nat} {rs : va_W} {q : (Int32 × LwS)} (hst : l.stackTraces = false) (hxl : xL aa < 2 ^ 31) (g : gx_G D t (gx_E0 aa) l ({ frames := 22, cells := 5600, slots := 33600, locals := 537 }) cL_isWhole RL 11 J) (hE : ∀ (v : Int32) (σ : LwS) (pc : Nat) (L : List (Nat × Value)), some (v, σ) = some q → σ.2 ≤ 5600 → decode cL_isWhole pc = .ok (.ireturn, 1) → narrow .boolean (.int v) = .int v → J σ.2 (6 * σ.2) (kW aa ad t σ.1 rs) pc L [.int v])  : ∀ (n : Nat) (σ : LwS) (v3 : Int32) (v5 : Int32) (v6 : Int32) (v7 : Int32) (v8 : Int32) (v9 : Int32), fL_isWhole_312 aa n σ v3 v5 v6 v7 v8 v9 = some q → J σ.2 (6 * σ.2) (kW aa ad t σ.1 rs) 312 [(0, .ref (ad 0)), (3, .int v3), (5, .int v5), (6, .int v6), (7, .int v7), (8, .int v8), (9, .int v9)] [] := by
  intro n
  induction n with
  | zero => intro σ v3 v5 v6 v7 v8 v9 hf; cases hf
  | succ n ih =>
    intro σ v3 v5 v6 v7 v8 v9 hf
    replace hf := (fL_isWhole_312_s aa n σ v3 v5 v6 v7 v8 v9).symm.trans hf
    refine j_iload (pc := 312) g 6 dL_isWhole_312 rfl ?_
    refine j_bipush (v := 100) (pc := 314) g dL_isWhole_314 (by decide) ?_
    refine j_icmp_ge (tgt := 336) (pc := 316) g dL_isWhole_316 (by decide) (fun c_316 => ?_) (fun c_316 => ?_)
    · have hf := gx_it c_316 hf
      refine j_aload_n (pc := 336) g 0 dL_isWhole_336 rfl ?_
      obtain ⟨k_337, hf⟩ := gx_ck hf
      obtain ⟨r337, h_337, hf⟩ := gx_bs hf
      refine lv_executedOrders (pc := 337) g (M := 5600) ⟨(Nat.le_of_ble_eq_true rfl), (Nat.le_of_ble_eq_true rfl)⟩ k_337 h_337 (q0 := 0) rfl rfl (.refl _) (.refl _) ⟨(Nat.le_of_ble_eq_true rfl), (Nat.le_of_ble_eq_true rfl)⟩ (Nat.le_of_ble_eq_true rfl) dL_isWhole_337 ?_
      refine j_aload_n (pc := 340) g 0 dL_isWhole_340 rfl ?_
      obtain ⟨k_341, hf⟩ := gx_ck hf
      obtain ⟨r341, h_341, hf⟩ := gx_bs hf
      refine lv_refusedOrders (pc := 341) g (M := 5600) ⟨(Nat.le_of_ble_eq_true rfl), (Nat.le_of_ble_eq_true rfl)⟩ k_341 h_341 (q0 := 0) rfl rfl (.refl _) (.refl _) ⟨(Nat.le_of_ble_eq_true rfl), (Nat.le_of_ble_eq_true rfl)⟩ (Nat.le_of_ble_eq_true rfl) dL_isWhole_341 ?_
      refine j_iadd (pc := 344) g dL_isWhole_344 ?_
      refine j_aload_n (pc := 345) g 0 dL_isWhole_345 rfl ?_
      obtain ⟨k_346, hf⟩ := gx_ck hf
      obtain ⟨r346, h_346, hf⟩ := gx_bs hf
      refine lv_lostOrders (pc := 346) g (M := 5600) ⟨(Nat.le_of_ble_eq_true rfl), (Nat.le_of_ble_eq_true rfl)⟩ k_346 h_346 (q0 := 0) rfl rfl (.refl _) (.refl _) ⟨(Nat.le_of_ble_eq_true rfl), (Nat.le_of_ble_eq_true rfl)⟩ (Nat.le_of_ble_eq_true rfl) dL_isWhole_346 ?_
      refine j_iadd (pc := 349) g dL_isWhole_349 ?_
      refine j_istore (L' := [(9, .int ((r337 + r341) + r346)), (0, .ref (ad 0)), (3, .int v3), (5, .int v5), (6, .int v6), (7, .int v7), (8, .int v8)]) (pc := 350) g dL_isWhole_350 (Nat.le_of_ble_eq_true rfl) rfl ?_
      refine j_aload_n (pc := 352) g 1 dL_isWhole_352 rfl ?_
      obtain ⟨k_353, hf⟩ := gx_ck hf
      obtain ⟨r353, h_353, hf⟩ := gx_bs hf
      refine lv_meanLoyalty (pc := 353) g (M := 5600) ⟨(Nat.le_of_ble_eq_true rfl), (Nat.le_of_ble_eq_true rfl)⟩ k_353 h_353 (q0 := 0) rfl rfl (.refl _) (.refl _) ⟨(Nat.le_of_ble_eq_true rfl), (Nat.le_of_ble_eq_true rfl)⟩ (Nat.le_of_ble_eq_true rfl) dL_isWhole_353 ?_
      refine j_iload (pc := 356) g 4 dL_isWhole_356 rfl ?_
      refine j_i2d (pc := 358) g dL_isWhole_358 ?_
      refine j_iload (pc := 359) g 3 dL_isWhole_359 rfl ?_
      refine j_i2d (pc := 361) g dL_isWhole_361 ?_
      obtain ⟨h_362, hf⟩ := gx_ck hf
      refine j_ddiv (pc := 362) g h_362 dL_isWhole_362 ?_
      refine j_dcmp (pc := 363) g dL_isWhole_363 ?_
      refine j_if_ne (tgt := 398) (pc := 364) g dL_isWhole_364 (by decide) (fun c_364 => ?_) (fun c_364 => ?_)
      · have hf := gx_if c_364 hf
        refine j_sub (pc := 398) g [1, 2, 3, 5, 6] rfl ?_
        exact tL_isWhole_398 hst hxl g hE σ v3 v5 v7 v8 hf
      · have hf := gx_it c_364 hf
        refine j_aload_n (pc := 367) g 1 dL_isWhole_367 rfl ?_
        obtain ⟨k_368, hf⟩ := gx_ck hf
        obtain ⟨r368, h_368, hf⟩ := gx_bs hf
        refine lc_executedShare (pc := 368) g (M := 5600) ⟨(Nat.le_of_ble_eq_true rfl), (Nat.le_of_ble_eq_true rfl)⟩ hst k_368 h_368 (.refl _) (.refl _) ⟨(Nat.le_of_ble_eq_true rfl), (Nat.le_of_ble_eq_true rfl)⟩ (Nat.le_of_ble_eq_true rfl) dL_isWhole_368 ?_
        refine j_iload (pc := 371) g 0 dL_isWhole_371 rfl ?_
        refine j_if_ne (tgt := 381) (pc := 373) g dL_isWhole_373 (by decide) (fun c_373 => ?_) (fun c_373 => ?_)
        · have hf := gx_if c_373 hf
          refine j_aload_n (pc := 381) g 1 dL_isWhole_381 rfl ?_
          obtain ⟨k_382, hf⟩ := gx_ck hf
          obtain ⟨r382, h_382, hf⟩ := gx_bs hf
          refine lv_executedOrders (pc := 382) g (M := 5600) ⟨(Nat.le_of_ble_eq_true rfl), (Nat.le_of_ble_eq_true rfl)⟩ k_382 h_382 (q0 := 0) rfl rfl (.refl _) (.refl _) ⟨(Nat.le_of_ble_eq_true rfl), (Nat.le_of_ble_eq_true rfl)⟩ (Nat.le_of_ble_eq_true rfl) dL_isWhole_382 ?_
          refine j_i2f (pc := 385) g dL_isWhole_385 ?_
          refine j_iload (pc := 386) g 0 dL_isWhole_386 rfl ?_
          refine j_i2f (pc := 388) g dL_isWhole_388 ?_
          obtain ⟨h_389, hf⟩ := gx_ck hf
          refine j_fdiv (pc := 389) g h_389 dL_isWhole_389 ?_
          refine j_fcmp (pc := 390) g dL_isWhole_390 ?_
          refine j_if_ne (tgt := 398) (pc := 391) g dL_isWhole_391 (by decide) (fun c_391 => ?_) (fun c_391 => ?_)
          · have hf := gx_if c_391 hf
            refine j_sub (pc := 398) g [1, 2, 3, 5, 6] rfl ?_
            exact tL_isWhole_398 hst hxl g hE (r368.2, σ.2 + 1) v3 v5 v7 v8 hf
          · have hf := gx_it c_391 hf
            refine j_iconst (v := 1) (pc := 394) g dL_isWhole_394 (by decide) ?_
            refine j_goto (tgt := 399) (pc := 395) g dL_isWhole_395 (by decide) ?_
            refine j_istore (L' := [(10, .int (1 : Int32)), (9, .int ((r337 + r341) + r346)), (0, .ref (ad 0)), (3, .int v3), (5, .int v5), (6, .int v6), (7, .int v7), (8, .int v8)]) (pc := 399) g dL_isWhole_399 (Nat.le_of_ble_eq_true rfl) rfl ?_
            refine j_sub (pc := 401) g [2, 3, 4, 6, 7, 0] rfl ?_
            exact tL_isWhole_401 hst hxl g hE (r368.2, σ.2 + 1) v3 v5 v7 v8 (1 : Int32) hf
        · have hf := gx_it c_373 hf
          refine j_ldcf (pc := 376) g q_k125_L dL_isWhole_376 ?_
          refine j_goto (tgt := 390) (pc := 378) g dL_isWhole_378 (by decide) ?_
          refine j_fcmp (pc := 390) g dL_isWhole_390 ?_
          refine j_if_ne (tgt := 398) (pc := 391) g dL_isWhole_391 (by decide) (fun c_391 => ?_) (fun c_391 => ?_)
          · have hf := gx_if c_391 hf
            refine j_sub (pc := 398) g [1, 2, 3, 5, 6] rfl ?_
            exact tL_isWhole_398 hst hxl g hE (r368.2, σ.2 + 1) v3 v5 v7 v8 hf
          · have hf := gx_it c_391 hf
            refine j_iconst (v := 1) (pc := 394) g dL_isWhole_394 (by decide) ?_
            refine j_goto (tgt := 399) (pc := 395) g dL_isWhole_395 (by decide) ?_
            refine j_istore (L' := [(10, .int (1 : Int32)), (9, .int ((r337 + r341) + r346)), (0, .ref (ad 0)), (3, .int v3), (5, .int v5), (6, .int v6), (7, .int v7), (8, .int v8)]) (pc := 399) g dL_isWhole_399 (Nat.le_of_ble_eq_true rfl) rfl ?_
            refine j_sub (pc := 401) g [2, 3, 4, 6, 7, 0] rfl ?_
            exact tL_isWhole_401 hst hxl g hE (r368.2, σ.2 + 1) v3 v5 v7 v8 (1 : Int32) hf
    · have hf := gx_if c_316 hf
      refine j_iload (pc := 319) g 5 dL_isWhole_319 rfl ?_
      refine j_aload_n (pc := 321) g 0 dL_isWhole_321 rfl ?_
      refine j_iload (pc := 322) g 6 dL_isWhole_322 rfl ?_
      obtain ⟨k_324, hf⟩ := gx_ck hf
      obtain ⟨r324, h_324, hf⟩ := gx_bs hf
      refine lc_flagsWith (pc := 324) g (M := 5600) ⟨(Nat.le_of_ble_eq_true rfl), (Nat.le_of_ble_eq_true rfl)⟩ hst k_324 h_324 (.refl _) (.refl _) ⟨(Nat.le_of_ble_eq_true rfl), (Nat.le_of_ble_eq_true rfl)⟩ (Nat.le_of_ble_eq_true rfl) dL_isWhole_324 ?_
      refine j_iadd (pc := 327) g dL_isWhole_327 ?_
      refine j_istore (L' := [(8, .int (v8 + r324.1)), (0, .ref (ad 0)), (3, .int v3), (5, .int v5), (6, .int v6), (7, .int v7), (9, .int v9)]) (pc := 328) g dL_isWhole_328 (Nat.le_of_ble_eq_true rfl) rfl ?_
      refine j_iinc (v := v9 + 1) (L' := [(9, .int (v9 + 1)), (8, .int (v8 + r324.1)), (0, .ref (ad 0)), (3, .int v3), (5, .int v5), (6, .int v6), (7, .int v7)]) (pc := 330) g 6 dL_isWhole_330 rfl rfl (Nat.le_of_ble_eq_true rfl) rfl ?_
      refine j_goto (tgt := 312) (pc := 333) g dL_isWhole_333 (by decide) ?_
      refine j_sub (pc := 312) g [2, 3, 4, 5, 6, 1, 0] rfl ?_
      exact ih (r324.2, σ.2 + 1) v3 v5 v6 v7 (v8 + r324.1) (v9 + 1) hf
set_option maxRecDepth 100000 in
set_option maxHeartbeats 8000000 in
theorem tL_isWhole_235 {D : va_G} {t : Nat → ClassId} {aa : gx_AA} {l : Launch} {J : gx_J} {ad : Nat → Nat} {rs : va_W} {q : (Int32 × LwS)} (hst : l.stackTraces = false) (hxl : xL aa < 2 ^ 31) (g : gx_G D t (gx_E0 aa) l ({ frames := 22, cells := 5600, slots := 33600, locals := 537 }) cL_isWhole RL 11 J) (hE : ∀ (v : Int32) (σ : LwS) (pc : Nat) (L : List (Nat × Value)), some (v, σ) = some q → σ.2 ≤ 5600 → decode cL_isWhole pc = .ok (.ireturn, 1) → narrow .boolean (.int v) = .int v → J σ.2 (6 * σ.2) (kW aa ad t σ.1 rs) pc L [.int v])  : ∀ (n : Nat) (σ : LwS) (v3 : Int32) (v4 : Int32) (v5 : Int32) (v6 : Int32) (v7 : Int32) (v8 : Int32), fL_isWhole_235 aa n σ v3 v4 v5 v6 v7 v8 = some q → J σ.2 (6 * σ.2) (kW aa ad t σ.1 rs) 235 [(0, .ref (ad 0)), (3, .int v3), (4, .int v4), (5, .int v5), (6, .int v6), (7, .int v7), (8, .int v8)] [] := by
  intro n
  induction n with
  | zero => intro σ v3 v4 v5 v6 v7 v8 hf; cases hf
  | succ n ih =>
    intro σ v3 v4 v5 v6 v7 v8 hf
    replace hf := (fL_isWhole_235_s aa n σ v3 v4 v5 v6 v7 v8).symm.trans hf
    refine j_iload (pc := 235) g 6 dL_isWhole_235 rfl ?_
    refine j_aload_n (pc := 237) g 0 dL_isWhole_237 rfl ?_
    obtain ⟨k_238, hf⟩ := gx_ck hf
    obtain ⟨r238, h_238, hf⟩ := gx_bs hf
    refine lv_orderCount (pc := 238) g (M := 5600) ⟨(Nat.le_of_ble_eq_true rfl), (Nat.le_of_ble_eq_true rfl)⟩ k_238 h_238 (q0 := 0) rfl rfl (.refl _) (.refl _) ⟨(Nat.le_of_ble_eq_true rfl), (Nat.le_of_ble_eq_true rfl)⟩ (Nat.le_of_ble_eq_true rfl) dL_isWhole_238 ?_
    refine j_icmp_ge (tgt := 306) (pc := 241) g dL_isWhole_241 (by decide) (fun c_241 => ?_) (fun c_241 => ?_)
    · have hf := gx_it c_241 hf
      refine j_iconst (v := 0) (pc := 306) g dL_isWhole_306 (by decide) ?_
      refine j_istore (L' := [(8, .int (0 : Int32)), (0, .ref (ad 0)), (3, .int v3), (4, .int v4), (5, .int v5), (6, .int v6), (7, .int v7)]) (pc := 307) g dL_isWhole_307 (Nat.le_of_ble_eq_true rfl) rfl ?_
      refine j_iconst (v := 0) (pc := 309) g dL_isWhole_309 (by decide) ?_
      refine j_istore (L' := [(9, .int (0 : Int32)), (8, .int (0 : Int32)), (0, .ref (ad 0)), (3, .int v3), (4, .int v4), (5, .int v5), (6, .int v6), (7, .int v7)]) (pc := 310) g dL_isWhole_310 (Nat.le_of_ble_eq_true rfl) rfl ?_
      refine j_sub (pc := 312) g [2, 3, 5, 6, 7, 1, 0] rfl ?_
      exact tL_isWhole_312 hst hxl g hE 2000 σ v3 v5 v6 v7 (0 : Int32) (0 : Int32) hf
    · have hf := gx_if c_241 hf
      refine j_aload_n (pc := 244) g 0 dL_isWhole_244 rfl ?_
      refine j_aload_n (pc := 245) g 0 dL_isWhole_245 rfl ?_
      refine j_iload (pc := 246) g 6 dL_isWhole_246 rfl ?_
      obtain ⟨k_248, hf⟩ := gx_ck hf
      obtain ⟨r248, h_248, hf⟩ := gx_bs hf
      refine lc_holder (pc := 248) g (M := 5600) ⟨(Nat.le_of_ble_eq_true rfl), (Nat.le_of_ble_eq_true rfl)⟩ hst k_248 h_248 (.refl _) (.refl _) ⟨(Nat.le_of_ble_eq_true rfl), (Nat.le_of_ble_eq_true rfl)⟩ (Nat.le_of_ble_eq_true rfl) dL_isWhole_248 ?_
      obtain ⟨k_251, hf⟩ := gx_ck hf
      obtain ⟨r251, h_251, hf⟩ := gx_bs hf
      refine lv_isInNavy (pc := 251) g (M := 5600) ⟨(Nat.le_of_ble_eq_true rfl), (Nat.le_of_ble_eq_true rfl)⟩ k_251 h_251 (q0 := 0) rfl rfl (.refl _) (.refl _) ⟨(Nat.le_of_ble_eq_true rfl), (Nat.le_of_ble_eq_true rfl)⟩ (Nat.le_of_ble_eq_true rfl) dL_isWhole_251 ?_
      refine j_if_eq (tgt := 298) (pc := 254) g dL_isWhole_254 (by decide) (fun c_254 => ?_) (fun c_254 => ?_)
      · have hf := gx_it c_254 hf
        refine j_iconst (v := 0) (pc := 298) g dL_isWhole_298 (by decide) ?_
        obtain ⟨h_k, hf⟩ := gx_ck hf
        exact hE _ _ _ _ hf h_k dL_isWhole_299 rfl
      · have hf := gx_if c_254 hf
        refine j_aload_n (pc := 257) g 0 dL_isWhole_257 rfl ?_
        refine j_iload (pc := 258) g 6 dL_isWhole_258 rfl ?_
        obtain ⟨k_260, hf⟩ := gx_ck hf
        obtain ⟨r260, h_260, hf⟩ := gx_bs hf
        refine lc_target (pc := 260) g (M := 5600) ⟨(Nat.le_of_ble_eq_true rfl), (Nat.le_of_ble_eq_true rfl)⟩ hst k_260 h_260 (.refl _) (.refl _) ⟨(Nat.le_of_ble_eq_true rfl), (Nat.le_of_ble_eq_true rfl)⟩ (Nat.le_of_ble_eq_true rfl) dL_isWhole_260 ?_
        refine j_iconst (v := 1) (pc := 263) g dL_isWhole_263 (by decide) ?_
        refine j_icmp_lt (tgt := 298) (pc := 264) g dL_isWhole_264 (by decide) (fun c_264 => ?_) (fun c_264 => ?_)
        · have hf := gx_it c_264 hf
          refine j_iconst (v := 0) (pc := 298) g dL_isWhole_298 (by decide) ?_
          obtain ⟨h_k, hf⟩ := gx_ck hf
          exact hE _ _ _ _ hf h_k dL_isWhole_299 rfl
        · have hf := gx_if c_264 hf
          refine j_aload_n (pc := 267) g 0 dL_isWhole_267 rfl ?_
          refine j_iload (pc := 268) g 6 dL_isWhole_268 rfl ?_
          obtain ⟨k_270, hf⟩ := gx_ck hf
          obtain ⟨r270, h_270, hf⟩ := gx_bs hf
          refine lc_target (pc := 270) g (M := 5600) ⟨(Nat.le_of_ble_eq_true rfl), (Nat.le_of_ble_eq_true rfl)⟩ hst k_270 h_270 (.refl _) (.refl _) ⟨(Nat.le_of_ble_eq_true rfl), (Nat.le_of_ble_eq_true rfl)⟩ (Nat.le_of_ble_eq_true rfl) dL_isWhole_270 ?_
          refine j_iload (pc := 273) g 2 dL_isWhole_273 rfl ?_
          refine j_icmp_ge (tgt := 298) (pc := 275) g dL_isWhole_275 (by decide) (fun c_275 => ?_) (fun c_275 => ?_)
          · have hf := gx_it c_275 hf
            refine j_iconst (v := 0) (pc := 298) g dL_isWhole_298 (by decide) ?_
            obtain ⟨h_k, hf⟩ := gx_ck hf
            exact hE _ _ _ _ hf h_k dL_isWhole_299 rfl
          · have hf := gx_if c_275 hf
            refine j_aload_n (pc := 278) g 0 dL_isWhole_278 rfl ?_
            refine j_iload (pc := 279) g 6 dL_isWhole_279 rfl ?_
            obtain ⟨k_281, hf⟩ := gx_ck hf
            obtain ⟨r281, h_281, hf⟩ := gx_bs hf
            refine lc_severity (pc := 281) g (M := 5600) ⟨(Nat.le_of_ble_eq_true rfl), (Nat.le_of_ble_eq_true rfl)⟩ hst k_281 h_281 (.refl _) (.refl _) ⟨(Nat.le_of_ble_eq_true rfl), (Nat.le_of_ble_eq_true rfl)⟩ (Nat.le_of_ble_eq_true rfl) dL_isWhole_281 ?_
            refine j_if_lt (tgt := 298) (pc := 284) g dL_isWhole_284 (by decide) (fun c_284 => ?_) (fun c_284 => ?_)
            · have hf := gx_it c_284 hf
              refine j_iconst (v := 0) (pc := 298) g dL_isWhole_298 (by decide) ?_
              obtain ⟨h_k, hf⟩ := gx_ck hf
              exact hE _ _ _ _ hf h_k dL_isWhole_299 rfl
            · have hf := gx_if c_284 hf
              refine j_aload_n (pc := 287) g 0 dL_isWhole_287 rfl ?_
              refine j_iload (pc := 288) g 6 dL_isWhole_288 rfl ?_
              obtain ⟨k_290, hf⟩ := gx_ck hf
              obtain ⟨r290, h_290, hf⟩ := gx_bs hf
              refine lc_severity (pc := 290) g (M := 5600) ⟨(Nat.le_of_ble_eq_true rfl), (Nat.le_of_ble_eq_true rfl)⟩ hst k_290 h_290 (.refl _) (.refl _) ⟨(Nat.le_of_ble_eq_true rfl), (Nat.le_of_ble_eq_true rfl)⟩ (Nat.le_of_ble_eq_true rfl) dL_isWhole_290 ?_
              refine j_bipush (v := 100) (pc := 293) g dL_isWhole_293 (by decide) ?_
              refine j_icmp_le (tgt := 300) (pc := 295) g dL_isWhole_295 (by decide) (fun c_295 => ?_) (fun c_295 => ?_)
              · have hf := gx_it c_295 hf
                refine j_iinc (v := v8 + 1) (L' := [(8, .int (v8 + 1)), (0, .ref (ad 0)), (3, .int v3), (4, .int v4), (5, .int v5), (6, .int v6), (7, .int v7)]) (pc := 300) g 6 dL_isWhole_300 rfl rfl (Nat.le_of_ble_eq_true rfl) rfl ?_
                refine j_goto (tgt := 235) (pc := 303) g dL_isWhole_303 (by decide) ?_
                refine j_sub (pc := 235) g [1, 2, 3, 4, 5, 6, 0] rfl ?_
                exact ih (r290.2, ((((σ.2 + 1) + 1) + 1) + 1) + 1) v3 v4 v5 v6 v7 (v8 + 1) hf
              · have hf := gx_if c_295 hf
                refine j_iconst (v := 0) (pc := 298) g dL_isWhole_298 (by decide) ?_
                obtain ⟨h_k, hf⟩ := gx_ck hf
                exact hE _ _ _ _ hf h_k dL_isWhole_299 rfl
set_option maxRecDepth 100000 in
set_option maxHeartbeats 8000000 in
theorem tL_isWhole_132 {D : va_G} {t : Nat → ClassId} {aa : gx_AA} {l : Launch} {J : gx_J} {ad : Nat → Nat} {rs : va_W} {q : (Int32 × LwS)} (hst : l.stackTraces = false) (hxl : xL aa < 2 ^ 31) (g : gx_G D t (gx_E0 aa) l ({ frames := 22, cells := 5600, slots := 33600, locals := 537 }) cL_isWhole RL 11 J) (hE : ∀ (v : Int32) (σ : LwS) (pc : Nat) (L : List (Nat × Value)), some (v, σ) = some q → σ.2 ≤ 5600 → decode cL_isWhole pc = .ok (.ireturn, 1) → narrow .boolean (.int v) = .int v → J σ.2 (6 * σ.2) (kW aa ad t σ.1 rs) pc L [.int v])  : ∀ (n : Nat) (σ : LwS) (v3 : Int32) (v4 : Int32) (v5 : Int32) (v6 : Int32) (v7 : Int32) (v8 : Int32), fL_isWhole_132 aa n σ v3 v4 v5 v6 v7 v8 = some q → J σ.2 (6 * σ.2) (kW aa ad t σ.1 rs) 132 [(0, .ref (ad 0)), (3, .int v3), (4, .int v4), (5, .int v5), (6, .int v6), (7, .int v7), (8, .int v8)] [] := by
  intro n
  induction n with
  | zero => intro σ v3 v4 v5 v6 v7 v8 hf; cases hf
  | succ n ih =>
    intro σ v3 v4 v5 v6 v7 v8 hf
    replace hf := (fL_isWhole_132_s aa n σ v3 v4 v5 v6 v7 v8).symm.trans hf
    refine j_iload (pc := 132) g 6 dL_isWhole_132 rfl ?_
    refine j_iload (pc := 134) g 3 dL_isWhole_134 rfl ?_
    refine j_icmp_ge (tgt := 232) (pc := 136) g dL_isWhole_136 (by decide) (fun c_136 => ?_) (fun c_136 => ?_)
    · have hf := gx_it c_136 hf
      refine j_iconst (v := 0) (pc := 232) g dL_isWhole_232 (by decide) ?_
      refine j_istore (L' := [(8, .int (0 : Int32)), (0, .ref (ad 0)), (3, .int v3), (4, .int v4), (5, .int v5), (6, .int v6), (7, .int v7)]) (pc := 233) g dL_isWhole_233 (Nat.le_of_ble_eq_true rfl) rfl ?_
      refine j_sub (pc := 235) g [1, 2, 3, 4, 5, 6, 0] rfl ?_
      exact tL_isWhole_235 hst hxl g hE 2000 σ v3 v4 v5 v6 v7 (0 : Int32) hf
    · have hf := gx_if c_136 hf
      refine j_aload_n (pc := 139) g 0 dL_isWhole_139 rfl ?_
      refine j_iload (pc := 140) g 6 dL_isWhole_140 rfl ?_
      refine j_iconst (v := 1) (pc := 142) g dL_isWhole_142 (by decide) ?_
      refine j_isub (pc := 143) g dL_isWhole_143 ?_
      obtain ⟨k_144, hf⟩ := gx_ck hf
      obtain ⟨r144, h_144, hf⟩ := gx_bs hf
      refine lc_officerByRank (pc := 144) g (M := 5600) ⟨(Nat.le_of_ble_eq_true rfl), (Nat.le_of_ble_eq_true rfl)⟩ hst k_144 h_144 (.refl _) (.refl _) ⟨(Nat.le_of_ble_eq_true rfl), (Nat.le_of_ble_eq_true rfl)⟩ (Nat.le_of_ble_eq_true rfl) dL_isWhole_144 ?_
      refine j_istore (L' := [(9, .int r144.1), (0, .ref (ad 0)), (3, .int v3), (4, .int v4), (5, .int v5), (6, .int v6), (7, .int v7), (8, .int v8)]) (pc := 147) g dL_isWhole_147 (Nat.le_of_ble_eq_true rfl) rfl ?_
      refine j_aload_n (pc := 149) g 1 dL_isWhole_149 rfl ?_
      refine j_iload (pc := 150) g 7 dL_isWhole_150 rfl ?_
      obtain ⟨k_152, hf⟩ := gx_ck hf
      obtain ⟨r152, h_152, hf⟩ := gx_bs hf
      refine lc_officerByRank (pc := 152) g (M := 5600) ⟨(Nat.le_of_ble_eq_true rfl), (Nat.le_of_ble_eq_true rfl)⟩ hst k_152 h_152 (.refl _) (.refl _) ⟨(Nat.le_of_ble_eq_true rfl), (Nat.le_of_ble_eq_true rfl)⟩ (Nat.le_of_ble_eq_true rfl) dL_isWhole_152 ?_
      refine j_istore (L' := [(10, .int r152.1), (9, .int r144.1), (0, .ref (ad 0)), (3, .int v3), (4, .int v4), (5, .int v5), (6, .int v6), (7, .int v7), (8, .int v8)]) (pc := 155) g dL_isWhole_155 (Nat.le_of_ble_eq_true rfl) rfl ?_
      refine j_aload_n (pc := 157) g 2 dL_isWhole_157 rfl ?_
      refine j_iload (pc := 158) g 1 dL_isWhole_158 rfl ?_
      obtain ⟨k_160, hf⟩ := gx_ck hf
      obtain ⟨r160, h_160, hf⟩ := gx_bs hf
      refine lc_rank (pc := 160) g (M := 5600) ⟨(Nat.le_of_ble_eq_true rfl), (Nat.le_of_ble_eq_true rfl)⟩ hst k_160 h_160 (.refl _) (.refl _) ⟨(Nat.le_of_ble_eq_true rfl), (Nat.le_of_ble_eq_true rfl)⟩ (Nat.le_of_ble_eq_true rfl) dL_isWhole_160 ?_
      refine j_aload_n (pc := 163) g 2 dL_isWhole_163 rfl ?_
      refine j_iload (pc := 164) g 0 dL_isWhole_164 rfl ?_
      obtain ⟨k_166, hf⟩ := gx_ck hf
      obtain ⟨r166, h_166, hf⟩ := gx_bs hf
      refine lc_rank (pc := 166) g (M := 5600) ⟨(Nat.le_of_ble_eq_true rfl), (Nat.le_of_ble_eq_true rfl)⟩ hst k_166 h_166 (.refl _) (.refl _) ⟨(Nat.le_of_ble_eq_true rfl), (Nat.le_of_ble_eq_true rfl)⟩ (Nat.le_of_ble_eq_true rfl) dL_isWhole_166 ?_
      refine j_icmp_lt (tgt := 224) (pc := 169) g dL_isWhole_169 (by decide) (fun c_169 => ?_) (fun c_169 => ?_)
      · have hf := gx_it c_169 hf
        refine j_iconst (v := 0) (pc := 224) g dL_isWhole_224 (by decide) ?_
        obtain ⟨h_k, hf⟩ := gx_ck hf
        exact hE _ _ _ _ hf h_k dL_isWhole_225 rfl
      · have hf := gx_if c_169 hf
        refine j_aload_n (pc := 172) g 2 dL_isWhole_172 rfl ?_
        refine j_iload (pc := 173) g 1 dL_isWhole_173 rfl ?_
        obtain ⟨k_175, hf⟩ := gx_ck hf
        obtain ⟨r175, h_175, hf⟩ := gx_bs hf
        refine lc_rank (pc := 175) g (M := 5600) ⟨(Nat.le_of_ble_eq_true rfl), (Nat.le_of_ble_eq_true rfl)⟩ hst k_175 h_175 (.refl _) (.refl _) ⟨(Nat.le_of_ble_eq_true rfl), (Nat.le_of_ble_eq_true rfl)⟩ (Nat.le_of_ble_eq_true rfl) dL_isWhole_175 ?_
        refine j_aload_n (pc := 178) g 2 dL_isWhole_178 rfl ?_
        refine j_iload (pc := 179) g 0 dL_isWhole_179 rfl ?_
        obtain ⟨k_181, hf⟩ := gx_ck hf
        obtain ⟨r181, h_181, hf⟩ := gx_bs hf
        refine lc_rank (pc := 181) g (M := 5600) ⟨(Nat.le_of_ble_eq_true rfl), (Nat.le_of_ble_eq_true rfl)⟩ hst k_181 h_181 (.refl _) (.refl _) ⟨(Nat.le_of_ble_eq_true rfl), (Nat.le_of_ble_eq_true rfl)⟩ (Nat.le_of_ble_eq_true rfl) dL_isWhole_181 ?_
        refine j_icmp_ne (tgt := 226) (pc := 184) g dL_isWhole_184 (by decide) (fun c_184 => ?_) (fun c_184 => ?_)
        · have hf := gx_if c_184 hf
          refine j_iinc (v := v8 + 1) (L' := [(8, .int (v8 + 1)), (10, .int r152.1), (9, .int r144.1), (0, .ref (ad 0)), (3, .int v3), (4, .int v4), (5, .int v5), (6, .int v6), (7, .int v7)]) (pc := 226) g 8 dL_isWhole_226 rfl rfl (Nat.le_of_ble_eq_true rfl) rfl ?_
          refine j_goto (tgt := 132) (pc := 229) g dL_isWhole_229 (by decide) ?_
          refine j_sub (pc := 132) g [3, 4, 5, 6, 7, 8, 0] rfl ?_
          exact ih (r181.2, (((((σ.2 + 1) + 1) + 1) + 1) + 1) + 1) v3 v4 v5 v6 v7 (v8 + 1) hf
        · have hf := gx_it c_184 hf
          refine j_aload_n (pc := 187) g 2 dL_isWhole_187 rfl ?_
          refine j_iload (pc := 188) g 1 dL_isWhole_188 rfl ?_
          obtain ⟨k_190, hf⟩ := gx_ck hf
          obtain ⟨r190, h_190, hf⟩ := gx_bs hf
          refine lc_loyalty (pc := 190) g (M := 5600) ⟨(Nat.le_of_ble_eq_true rfl), (Nat.le_of_ble_eq_true rfl)⟩ hst k_190 h_190 (.refl _) (.refl _) ⟨(Nat.le_of_ble_eq_true rfl), (Nat.le_of_ble_eq_true rfl)⟩ (Nat.le_of_ble_eq_true rfl) dL_isWhole_190 ?_
          refine j_aload_n (pc := 193) g 2 dL_isWhole_193 rfl ?_
          refine j_iload (pc := 194) g 0 dL_isWhole_194 rfl ?_
          obtain ⟨k_196, hf⟩ := gx_ck hf
          obtain ⟨r196, h_196, hf⟩ := gx_bs hf
          refine lc_loyalty (pc := 196) g (M := 5600) ⟨(Nat.le_of_ble_eq_true rfl), (Nat.le_of_ble_eq_true rfl)⟩ hst k_196 h_196 (.refl _) (.refl _) ⟨(Nat.le_of_ble_eq_true rfl), (Nat.le_of_ble_eq_true rfl)⟩ (Nat.le_of_ble_eq_true rfl) dL_isWhole_196 ?_
          refine j_icmp_lt (tgt := 224) (pc := 199) g dL_isWhole_199 (by decide) (fun c_199 => ?_) (fun c_199 => ?_)
          · have hf := gx_it c_199 hf
            refine j_iconst (v := 0) (pc := 224) g dL_isWhole_224 (by decide) ?_
            obtain ⟨h_k, hf⟩ := gx_ck hf
            exact hE _ _ _ _ hf h_k dL_isWhole_225 rfl
          · have hf := gx_if c_199 hf
            refine j_aload_n (pc := 202) g 2 dL_isWhole_202 rfl ?_
            refine j_iload (pc := 203) g 1 dL_isWhole_203 rfl ?_
            obtain ⟨k_205, hf⟩ := gx_ck hf
            obtain ⟨r205, h_205, hf⟩ := gx_bs hf
            refine lc_loyalty (pc := 205) g (M := 5600) ⟨(Nat.le_of_ble_eq_true rfl), (Nat.le_of_ble_eq_true rfl)⟩ hst k_205 h_205 (.refl _) (.refl _) ⟨(Nat.le_of_ble_eq_true rfl), (Nat.le_of_ble_eq_true rfl)⟩ (Nat.le_of_ble_eq_true rfl) dL_isWhole_205 ?_
            refine j_aload_n (pc := 208) g 2 dL_isWhole_208 rfl ?_
            refine j_iload (pc := 209) g 0 dL_isWhole_209 rfl ?_
            obtain ⟨k_211, hf⟩ := gx_ck hf
            obtain ⟨r211, h_211, hf⟩ := gx_bs hf
            refine lc_loyalty (pc := 211) g (M := 5600) ⟨(Nat.le_of_ble_eq_true rfl), (Nat.le_of_ble_eq_true rfl)⟩ hst k_211 h_211 (.refl _) (.refl _) ⟨(Nat.le_of_ble_eq_true rfl), (Nat.le_of_ble_eq_true rfl)⟩ (Nat.le_of_ble_eq_true rfl) dL_isWhole_211 ?_
            refine j_icmp_ne (tgt := 226) (pc := 214) g dL_isWhole_214 (by decide) (fun c_214 => ?_) (fun c_214 => ?_)
            · have hf := gx_if c_214 hf
              refine j_iinc (v := v8 + 1) (L' := [(8, .int (v8 + 1)), (10, .int r152.1), (9, .int r144.1), (0, .ref (ad 0)), (3, .int v3), (4, .int v4), (5, .int v5), (6, .int v6), (7, .int v7)]) (pc := 226) g 8 dL_isWhole_226 rfl rfl (Nat.le_of_ble_eq_true rfl) rfl ?_
              refine j_goto (tgt := 132) (pc := 229) g dL_isWhole_229 (by decide) ?_
              refine j_sub (pc := 132) g [3, 4, 5, 6, 7, 8, 0] rfl ?_
              exact ih (r211.2, (((((((((σ.2 + 1) + 1) + 1) + 1) + 1) + 1) + 1) + 1) + 1) + 1) v3 v4 v5 v6 v7 (v8 + 1) hf
            · have hf := gx_it c_214 hf
              refine j_iload (pc := 217) g 1 dL_isWhole_217 rfl ?_
              refine j_iload (pc := 219) g 0 dL_isWhole_219 rfl ?_
              refine j_icmp_le (tgt := 226) (pc := 221) g dL_isWhole_221 (by decide) (fun c_221 => ?_) (fun c_221 => ?_)
              · have hf := gx_it c_221 hf
                refine j_iinc (v := v8 + 1) (L' := [(8, .int (v8 + 1)), (10, .int r152.1), (9, .int r144.1), (0, .ref (ad 0)), (3, .int v3), (4, .int v4), (5, .int v5), (6, .int v6), (7, .int v7)]) (pc := 226) g 8 dL_isWhole_226 rfl rfl (Nat.le_of_ble_eq_true rfl) rfl ?_
                refine j_goto (tgt := 132) (pc := 229) g dL_isWhole_229 (by decide) ?_
                refine j_sub (pc := 132) g [3, 4, 5, 6, 7, 8, 0] rfl ?_
                exact ih (r211.2, (((((((((σ.2 + 1) + 1) + 1) + 1) + 1) + 1) + 1) + 1) + 1) + 1) v3 v4 v5 v6 v7 (v8 + 1) hf
              · have hf := gx_if c_221 hf
                refine j_iconst (v := 0) (pc := 224) g dL_isWhole_224 (by decide) ?_
                obtain ⟨h_k, hf⟩ := gx_ck hf
                exact hE _ _ _ _ hf h_k dL_isWhole_225 rfl
set_option maxRecDepth 100000 in
set_option maxHeartbeats 8000000 in
theorem tL_isWhole_18 {D : va_G} {t : Nat → ClassId} {aa : gx_AA} {l : Launch} {J : gx_J} {ad : Nat → Nat} {rs : va_W} {q : (Int32 × LwS)} (hst : l.stackTraces = false) (hxl : xL aa < 2 ^ 31) (g : gx_G D t (gx_E0 aa) l ({ frames := 22, cells := 5600, slots := 33600, locals := 537 }) cL_isWhole RL 11 J) (hE : ∀ (v : Int32) (σ : LwS) (pc : Nat) (L : List (Nat × Value)), some (v, σ) = some q → σ.2 ≤ 5600 → decode cL_isWhole pc = .ok (.ireturn, 1) → narrow .boolean (.int v) = .int v → J σ.2 (6 * σ.2) (kW aa ad t σ.1 rs) pc L [.int v])  : ∀ (n : Nat) (σ : LwS) (v2 : Int32) (v3 : Int32) (v4 : Int32) (v5 : Int32) (v6 : Int32) (v7 : Int32) (v8 : Int32), fL_isWhole_18 aa n σ v2 v3 v4 v5 v6 v7 v8 = some q → J σ.2 (6 * σ.2) (kW aa ad t σ.1 rs) 18 [(0, .ref (ad 0)), (1, .ref (xB aa)), (2, .int v2), (3, .int v3), (4, .int v4), (5, .int v5), (6, .int v6), (7, .int v7), (8, .int v8)] [] := by
  intro n
  induction n with
  | zero => intro σ v2 v3 v4 v5 v6 v7 v8 hf; cases hf
  | succ n ih =>
    intro σ v2 v3 v4 v5 v6 v7 v8 hf
    replace hf := (fL_isWhole_18_s aa n σ v2 v3 v4 v5 v6 v7 v8).symm.trans hf
    refine j_iload (pc := 18) g 8 dL_isWhole_18 rfl ?_
    refine j_iload (pc := 20) g 4 dL_isWhole_20 rfl ?_
    refine j_icmp_ge (tgt := 129) (pc := 22) g dL_isWhole_22 (by decide) (fun c_22 => ?_) (fun c_22 => ?_)
    · have hf := gx_it c_22 hf
      refine j_iconst (v := 1) (pc := 129) g dL_isWhole_129 (by decide) ?_
      refine j_istore (L' := [(8, .int (1 : Int32)), (0, .ref (ad 0)), (1, .ref (xB aa)), (2, .int v2), (3, .int v3), (4, .int v4), (5, .int v5), (6, .int v6), (7, .int v7)]) (pc := 130) g dL_isWhole_130 (Nat.le_of_ble_eq_true rfl) rfl ?_
      refine j_sub (pc := 132) g [1, 4, 5, 6, 7, 8, 0] rfl ?_
      exact tL_isWhole_132 hst hxl g hE 2000 σ v3 v4 v5 v6 v7 (1 : Int32) hf
    · have hf := gx_if c_22 hf
      refine j_aload_n (pc := 25) g 0 dL_isWhole_25 rfl ?_
      refine j_iload (pc := 26) g 8 dL_isWhole_26 rfl ?_
      obtain ⟨k_28, hf⟩ := gx_ck hf
      obtain ⟨r28, h_28, hf⟩ := gx_bs hf
      refine lv_isInNavy (pc := 28) g (M := 5600) ⟨(Nat.le_of_ble_eq_true rfl), (Nat.le_of_ble_eq_true rfl)⟩ k_28 h_28 (q0 := 0) rfl rfl (.refl _) (.refl _) ⟨(Nat.le_of_ble_eq_true rfl), (Nat.le_of_ble_eq_true rfl)⟩ (Nat.le_of_ble_eq_true rfl) dL_isWhole_28 ?_
      refine j_if_eq (tgt := 99) (pc := 31) g dL_isWhole_31 (by decide) (fun c_31 => ?_) (fun c_31 => ?_)
      · have hf := gx_it c_31 hf
        refine j_aload_n (pc := 99) g 0 dL_isWhole_99 rfl ?_
        refine j_iload (pc := 100) g 8 dL_isWhole_100 rfl ?_
        obtain ⟨k_102, hf⟩ := gx_ck hf
        obtain ⟨r102, h_102, hf⟩ := gx_bs hf
        refine lc_rank (pc := 102) g (M := 5600) ⟨(Nat.le_of_ble_eq_true rfl), (Nat.le_of_ble_eq_true rfl)⟩ hst k_102 h_102 (.refl _) (.refl _) ⟨(Nat.le_of_ble_eq_true rfl), (Nat.le_of_ble_eq_true rfl)⟩ (Nat.le_of_ble_eq_true rfl) dL_isWhole_102 ?_
        refine j_bipush (v := -77) (pc := 105) g dL_isWhole_105 (by decide) ?_
        refine j_icmp_ne (tgt := 121) (pc := 107) g dL_isWhole_107 (by decide) (fun c_107 => ?_) (fun c_107 => ?_)
        · have hf := gx_if c_107 hf
          refine j_iconst (v := 0) (pc := 121) g dL_isWhole_121 (by decide) ?_
          obtain ⟨h_k, hf⟩ := gx_ck hf
          exact hE _ _ _ _ hf h_k dL_isWhole_122 rfl
        · have hf := gx_it c_107 hf
          refine j_aload_n (pc := 110) g 0 dL_isWhole_110 rfl ?_
          refine j_iload (pc := 111) g 8 dL_isWhole_111 rfl ?_
          obtain ⟨k_113, hf⟩ := gx_ck hf
          obtain ⟨r113, h_113, hf⟩ := gx_bs hf
          refine lc_commandSize (pc := 113) g (M := 5600) ⟨(Nat.le_of_ble_eq_true rfl), (Nat.le_of_ble_eq_true rfl)⟩ hst k_113 h_113 (.refl _) (.refl _) ⟨(Nat.le_of_ble_eq_true rfl), (Nat.le_of_ble_eq_true rfl)⟩ (Nat.le_of_ble_eq_true rfl) dL_isWhole_113 ?_
          refine j_bipush (v := -77) (pc := 116) g dL_isWhole_116 (by decide) ?_
          refine j_icmp_eq (tgt := 123) (pc := 118) g dL_isWhole_118 (by decide) (fun c_118 => ?_) (fun c_118 => ?_)
          · have hf := gx_it c_118 hf
            refine j_iinc (v := v8 + 1) (L' := [(8, .int (v8 + 1)), (0, .ref (ad 0)), (1, .ref (xB aa)), (2, .int v2), (3, .int v3), (4, .int v4), (5, .int v5), (6, .int v6), (7, .int v7)]) (pc := 123) g 8 dL_isWhole_123 rfl rfl (Nat.le_of_ble_eq_true rfl) rfl ?_
            refine j_goto (tgt := 18) (pc := 126) g dL_isWhole_126 (by decide) ?_
            refine j_sub (pc := 18) g [1, 2, 3, 4, 5, 6, 7, 8, 0] rfl ?_
            exact ih (r113.2, (σ.2 + 1) + 1) v2 v3 v4 v5 v6 v7 (v8 + 1) hf
          · have hf := gx_if c_118 hf
            refine j_iconst (v := 0) (pc := 121) g dL_isWhole_121 (by decide) ?_
            obtain ⟨h_k, hf⟩ := gx_ck hf
            exact hE _ _ _ _ hf h_k dL_isWhole_122 rfl
      · have hf := gx_if c_31 hf
        refine j_iinc (v := v5 + 1) (L' := [(5, .int (v5 + 1)), (0, .ref (ad 0)), (1, .ref (xB aa)), (2, .int v2), (3, .int v3), (4, .int v4), (6, .int v6), (7, .int v7), (8, .int v8)]) (pc := 34) g 5 dL_isWhole_34 rfl rfl (Nat.le_of_ble_eq_true rfl) rfl ?_
        refine j_iload (pc := 37) g 6 dL_isWhole_37 rfl ?_
        refine j_aload_n (pc := 39) g 1 dL_isWhole_39 rfl ?_
        refine j_iload (pc := 40) g 8 dL_isWhole_40 rfl ?_
        obtain ⟨k_42, hf⟩ := gx_ck hf
        obtain ⟨r42, h_42, hf⟩ := gx_bs hf
        refine lc_loyalty (pc := 42) g (M := 5600) ⟨(Nat.le_of_ble_eq_true rfl), (Nat.le_of_ble_eq_true rfl)⟩ hst k_42 h_42 (.refl _) (.refl _) ⟨(Nat.le_of_ble_eq_true rfl), (Nat.le_of_ble_eq_true rfl)⟩ (Nat.le_of_ble_eq_true rfl) dL_isWhole_42 ?_
        refine j_iadd (pc := 45) g dL_isWhole_45 ?_
        refine j_istore (L' := [(6, .int (v6 + r42.1)), (5, .int (v5 + 1)), (0, .ref (ad 0)), (1, .ref (xB aa)), (2, .int v2), (3, .int v3), (4, .int v4), (7, .int v7), (8, .int v8)]) (pc := 46) g dL_isWhole_46 (Nat.le_of_ble_eq_true rfl) rfl ?_
        refine j_iload (pc := 48) g 7 dL_isWhole_48 rfl ?_
        refine j_aload_n (pc := 50) g 2 dL_isWhole_50 rfl ?_
        refine j_iload (pc := 51) g 8 dL_isWhole_51 rfl ?_
        obtain ⟨k_53, hf⟩ := gx_ck hf
        obtain ⟨r53, h_53, hf⟩ := gx_bs hf
        refine lc_depth (pc := 53) g (M := 5600) ⟨(Nat.le_of_ble_eq_true rfl), (Nat.le_of_ble_eq_true rfl)⟩ hst k_53 h_53 (.refl _) (.refl _) ⟨(Nat.le_of_ble_eq_true rfl), (Nat.le_of_ble_eq_true rfl)⟩ (Nat.le_of_ble_eq_true rfl) dL_isWhole_53 ?_
        obtain ⟨h_56, hf⟩ := gx_ck hf
        refine j_max (pc := 56) g q_l_L_235 q_t_mathmax q_n_math q_c_mathmax (Nat.le_of_ble_eq_true rfl) (Nat.le_of_ble_eq_true rfl) (lk_le (M := 5600) ⟨(Nat.le_of_ble_eq_true rfl), (Nat.le_of_ble_eq_true rfl)⟩ h_56) dL_isWhole_56 ?_
        refine j_istore (L' := [(7, .int (if v7 < r53.1 then r53.1 else v7)), (6, .int (v6 + r42.1)), (5, .int (v5 + 1)), (0, .ref (ad 0)), (1, .ref (xB aa)), (2, .int v2), (3, .int v3), (4, .int v4), (8, .int v8)]) (pc := 59) g dL_isWhole_59 (Nat.le_of_ble_eq_true rfl) rfl ?_
        refine j_iload_n (pc := 61) g 6 dL_isWhole_61 rfl ?_
        refine j_if_ne (tgt := 79) (pc := 62) g dL_isWhole_62 (by decide) (fun c_62 => ?_) (fun c_62 => ?_)
        · have hf := gx_if c_62 hf
          refine j_sub (pc := 79) g [3, 4, 5, 6, 7, 2, 1, 0, 8] rfl ?_
          exact tL_isWhole_79 hst hxl g hE ih (r53.2, (σ.2 + 1) + 1) v2 v3 v4 (v5 + 1) (v6 + r42.1) (if v7 < r53.1 then r53.1 else v7) v8 hf
        · have hf := gx_it c_62 hf
          refine j_iload (pc := 65) g 8 dL_isWhole_65 rfl ?_
          refine j_aload_n (pc := 67) g 4 dL_isWhole_67 rfl ?_
          refine j_iload_n (pc := 68) g 5 dL_isWhole_68 rfl ?_
          refine j_iconst (v := 1) (pc := 69) g dL_isWhole_69 (by decide) ?_
          refine j_iadd (pc := 70) g dL_isWhole_70 ?_
          refine j_bipush (v := 12) (pc := 71) g dL_isWhole_71 (by decide) ?_
          obtain ⟨h_73, hf⟩ := gx_ck hf
          refine lc_pick (pc := 73) g (M := 5600) ⟨(Nat.le_of_ble_eq_true rfl), (Nat.le_of_ble_eq_true rfl)⟩ hxl h_73 ⟨(Nat.le_of_ble_eq_true rfl), (Nat.le_of_ble_eq_true rfl)⟩ (Nat.le_of_ble_eq_true rfl) dL_isWhole_73 ?_
          refine j_icmp_ne (tgt := 123) (pc := 76) g dL_isWhole_76 (by decide) (fun c_76 => ?_) (fun c_76 => ?_)
          · have hf := gx_if c_76 hf
            refine j_iinc (v := v8 + 1) (L' := [(8, .int (v8 + 1)), (7, .int (if v7 < r53.1 then r53.1 else v7)), (6, .int (v6 + r42.1)), (5, .int (v5 + 1)), (0, .ref (ad 0)), (1, .ref (xB aa)), (2, .int v2), (3, .int v3), (4, .int v4)]) (pc := 123) g 8 dL_isWhole_123 rfl rfl (Nat.le_of_ble_eq_true rfl) rfl ?_
            refine j_goto (tgt := 18) (pc := 126) g dL_isWhole_126 (by decide) ?_
            refine j_sub (pc := 18) g [4, 5, 6, 7, 8, 3, 2, 1, 0] rfl ?_
            exact ih (r53.2, (σ.2 + 1) + 1) v2 v3 v4 (v5 + 1) (v6 + r42.1) (if v7 < r53.1 then r53.1 else v7) (v8 + 1) hf
          · have hf := gx_it c_76 hf
            refine j_sub (pc := 79) g [3, 4, 5, 6, 7, 2, 1, 0, 8] rfl ?_
            exact tL_isWhole_79 hst hxl g hE ih (r53.2, (σ.2 + 1) + 1) v2 v3 v4 (v5 + 1) (v6 + r42.1) (if v7 < r53.1 then r53.1 else v7) v8 hf
set_option maxRecDepth 100000 in
set_option maxHeartbeats 8000000 in
theorem cL_isWhole_ {D : va_G} {t : Nat → ClassId} {aa : gx_AA} {l : Launch} {ad : Nat → Nat} {rs : va_W} {σ : CS} {p2 : Int32} {p3 : Int32} {q : (Int32 × LwS)} (hst : l.stackTraces = false) (hxl : xL aa < 2 ^ 31) (hf : fL_isWhole aa σ p2 p3 = some q) : gx_CM D t (gx_E0 aa) l yL_isWhole cL_isWhole 11 (some .boolean) 22 537 5600 (6 * 5600) [.ref (ad 0), .ref (xB aa), .int p2, .int p3] (kW aa ad t σ rs) (kW aa ad t q.2.1 rs) (some (.int q.1)) := by
  refine gx_intro_mi (by decide) (Nat.le_of_ble_eq_true rfl) (fun J g0 hE0 => ?_)
  have g : gx_G D t (gx_E0 aa) l ({ frames := 22, cells := 5600, slots := 33600, locals := 537 }) cL_isWhole RL 11 J := g0
  have hE : ∀ (v : Int32) (σ : LwS) (pc : Nat) (L : List (Nat × Value)), some (v, σ) = some q → σ.2 ≤ 5600 → decode cL_isWhole pc = .ok (.ireturn, 1) → narrow .boolean (.int v) = .int v → J σ.2 (6 * σ.2) (kW aa ad t σ.1 rs) pc L [.int v] := fun v σ pc L h h0 h1 h2 => by cases h; exact j_wid g h0 (Nat.mul_le_mul_left 6 h0) (hE0 pc L h1 h2)
  unfold fL_isWhole at hf
  show J 0 (6 * 0) (kW aa ad t σ rs) 0 [(0, .ref (ad 0)), (1, .ref (xB aa)), (2, .int p2), (3, .int p3)] []
  refine j_aload_n (pc := 0) g 0 dL_isWhole_0 rfl ?_
  obtain ⟨k_1, hf⟩ := gx_ck hf
  obtain ⟨r1, h_1, hf⟩ := gx_bs hf
  refine lv_appointedCount (pc := 1) g (M := 5600) ⟨(Nat.le_of_ble_eq_true rfl), (Nat.le_of_ble_eq_true rfl)⟩ k_1 h_1 (q0 := 0) rfl rfl (.refl _) (.refl _) ⟨(Nat.le_of_ble_eq_true rfl), (Nat.le_of_ble_eq_true rfl)⟩ (Nat.le_of_ble_eq_true rfl) dL_isWhole_1 ?_
  refine j_istore (L' := [(4, .int r1), (0, .ref (ad 0)), (1, .ref (xB aa)), (2, .int p2), (3, .int p3)]) (pc := 4) g dL_isWhole_4 (Nat.le_of_ble_eq_true rfl) rfl ?_
  refine j_iconst (v := 0) (pc := 6) g dL_isWhole_6 (by decide) ?_
  refine j_istore (L' := [(5, .int (0 : Int32)), (4, .int r1), (0, .ref (ad 0)), (1, .ref (xB aa)), (2, .int p2), (3, .int p3)]) (pc := 7) g dL_isWhole_7 (Nat.le_of_ble_eq_true rfl) rfl ?_
  refine j_iconst (v := 0) (pc := 9) g dL_isWhole_9 (by decide) ?_
  refine j_istore (L' := [(6, .int (0 : Int32)), (5, .int (0 : Int32)), (4, .int r1), (0, .ref (ad 0)), (1, .ref (xB aa)), (2, .int p2), (3, .int p3)]) (pc := 10) g dL_isWhole_10 (Nat.le_of_ble_eq_true rfl) rfl ?_
  refine j_iconst (v := 0) (pc := 12) g dL_isWhole_12 (by decide) ?_
  refine j_istore (L' := [(7, .int (0 : Int32)), (6, .int (0 : Int32)), (5, .int (0 : Int32)), (4, .int r1), (0, .ref (ad 0)), (1, .ref (xB aa)), (2, .int p2), (3, .int p3)]) (pc := 13) g dL_isWhole_13 (Nat.le_of_ble_eq_true rfl) rfl ?_
  refine j_iconst (v := 0) (pc := 15) g dL_isWhole_15 (by decide) ?_
  refine j_istore (L' := [(8, .int (0 : Int32)), (7, .int (0 : Int32)), (6, .int (0 : Int32)), (5, .int (0 : Int32)), (4, .int r1), (0, .ref (ad 0)), (1, .ref (xB aa)), (2, .int p2), (3, .int p3)]) (pc := 16) g dL_isWhole_16 (Nat.le_of_ble_eq_true rfl) rfl ?_
  refine j_sub (pc := 18) g [5, 6, 7, 8, 4, 3, 2, 1, 0] rfl ?_
  exact tL_isWhole_18 hst hxl g hE 2000 (σ, 0) p2 p3 r1 (0 : Int32) (0 : Int32) (0 : Int32) (0 : Int32) hf
