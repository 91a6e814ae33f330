theorem lc_writeCommand {D : va_G} {t : Nat → ClassId} {aa : gx_AA} {l : Launch} {R : Room} {cc : ByteArray} {nL : Nat} {J : gx_J} {ad : Nat → Nat} {rs w w' : va_W} {κ pc : Nat} {L : List (Nat × Value)} {rest : List Value} (g : gx_G D t (gx_E0 aa) l R cc RL nL J) {M : Nat} (hM : M ≤ R.cells ∧ 6 * M ≤ R.slots) (hst : l.stackTraces = false) (hk : κ + 1 ≤ M) {σ : CS} {p1 : Int32} {q : (Int32 × CS)} (hf : fL_writeCommand σ p1 = some q) (hp : w.Perm (kW aa ad t σ rs)) (hp' : (kW aa ad t q.2 rs).Perm w') (hR : 20 + 1 ≤ R.frames ∧ 8 + (3 + 11) + 488 ≤ R.locals) (hcat : (rest.map fun v => v.category).sum ≤ 8) (hd : decode cc pc = .ok (.invokestatic 325, 3)) (kk : J (κ + 1) (6 * (κ + 1)) w' (pc + 3) L (.int q.1 :: rest)) : J κ (6 * κ) w pc L (.int p1 :: .ref (ad 0) :: rest) := j_callH (na := 2) (As := [.ref (ad 0), .int p1]) g (hL_writeCommand_ (rs := rs) hst hf) q_t_L_writeCommand q_w_L_writeCommand q_l_L_325 q_n_L (by decide) (by decide +kernel) rfl hR (lk_add hM hk) hcat hp hp' hd kk rfl
theorem lc_commandSize {D : va_G} {t : Nat → ClassId} {aa : gx_AA} {l : Launch} {R : Room} {cc : ByteArray} {nL : Nat} {J : gx_J} {ad : Nat → Nat} {rs w w' : va_W} {κ pc : Nat} {L : List (Nat × Value)} {rest : List Value} (g : gx_G D t (gx_E0 aa) l R cc RL nL J) {M : Nat} (hM : M ≤ R.cells ∧ 6 * M ≤ R.slots) (hst : l.stackTraces = false) (hk : κ + 1 ≤ M) {σ : CS} {p1 : Int32} {q : (Int32 × CS)} (hf : fL_commandSize σ p1 = some q) (hp : w.Perm (kW aa ad t σ rs)) (hp' : (kW aa ad t q.2 rs).Perm w') (hR : 18 + 1 ≤ R.frames ∧ 8 + (3 + 11) + 429 ≤ R.locals) (hcat : (rest.map fun v => v.category).sum ≤ 8) (hd : decode cc pc = .ok (.invokestatic 197, 3)) (kk : J (κ + 1) (6 * (κ + 1)) w' (pc + 3) L (.int q.1 :: rest)) : J κ (6 * κ) w pc L (.int p1 :: .ref (ad 0) :: rest) := j_callH (na := 2) (As := [.ref (ad 0), .int p1]) g (hL_commandSize_ (rs := rs) hst hf) q_t_L_commandSize q_w_L_commandSize q_l_L_197 q_n_L (by decide) (by decide +kernel) rfl hR (lk_add hM hk) hcat hp hp' hd kk rfl
theorem lc_commandSizeByCounting {D : va_G} {t : Nat → ClassId} {aa : gx_AA} {l : Launch} {R : Room} {cc : ByteArray} {nL : Nat} {J : gx_J} {ad : Nat → Nat} {rs w w' : va_W} {κ pc : Nat} {L : List (Nat × Value)} {rest : List Value} (g : gx_G D t (gx_E0 aa) l R cc RL nL J) {M : Nat} (hM : M ≤ R.cells ∧ 6 * M ≤ R.slots) (hst : l.stackTraces = false) (hk : κ + 1 ≤ M) {σ : CS} {p1 : Int32} {q : (Int32 × CS)} (hf : fL_commandSizeByCounting σ p1 = some q) (hp : w.Perm (kW aa ad t σ rs)) (hp' : (kW aa ad t q.2 rs).Perm w') (hR : 8 + 1 ≤ R.frames ∧ 8 + (3 + 11) + 132 ≤ R.locals) (hcat : (rest.map fun v => v.category).sum ≤ 8) (hd : decode cc pc = .ok (.invokestatic 327, 3)) (kk : J (κ + 1) (6 * (κ + 1)) w' (pc + 3) L (.int q.1 :: rest)) : J κ (6 * κ) w pc L (.int p1 :: .ref (ad 0) :: rest) := j_callH (na := 2) (As := [.ref (ad 0), .int p1]) g (hL_commandSizeByCounting_ (rs := rs) hst hf) q_t_L_commandSizeByCounting q_w_L_commandSizeByCounting q_l_L_327 q_n_L (by decide) (by decide +kernel) rfl hR (lk_add hM hk) hcat hp hp' hd kk rfl
theorem lc_subordinates {D : va_G} {t : Nat → ClassId} {aa : gx_AA} {l : Launch} {R : Room} {cc : ByteArray} {nL : Nat} {J : gx_J} {ad : Nat → Nat} {rs w w' : va_W} {κ pc : Nat} {L : List (Nat × Value)} {rest : List Value} (g : gx_G D t (gx_E0 aa) l R cc RL nL J) {M : Nat} (hM : M ≤ R.cells ∧ 6 * M ≤ R.slots) (hst : l.stackTraces = false) (hk : κ + 1 ≤ M) {σ : CS} {p1 : Int32} {q : (Int32 × CS)} (hf : fL_subordinates σ p1 = some q) (hp : w.Perm (kW aa ad t σ rs)) (hp' : (kW aa ad t q.2 rs).Perm w') (hR : 8 + 1 ≤ R.frames ∧ 8 + (3 + 11) + 132 ≤ R.locals) (hcat : (rest.map fun v => v.category).sum ≤ 8) (hd : decode cc pc = .ok (.invokestatic 199, 3)) (kk : J (κ + 1) (6 * (κ + 1)) w' (pc + 3) L (.int q.1 :: rest)) : J κ (6 * κ) w pc L (.int p1 :: .ref (ad 0) :: rest) := j_callH (na := 2) (As := [.ref (ad 0), .int p1]) g (hL_subordinates_ (rs := rs) hst hf) q_t_L_subordinates q_w_L_subordinates q_l_L_199 q_n_L (by decide) (by decide +kernel) rfl hR (lk_add hM hk) hcat hp hp' hd kk rfl
theorem lc_depthFromTop {D : va_G} {t : Nat → ClassId} {aa : gx_AA} {l : Launch} {R : Room} {cc : ByteArray} {nL : Nat} {J : gx_J} {ad : Nat → Nat} {rs w w' : va_W} {κ pc : Nat} {L : List (Nat × Value)} {rest : List Value} (g : gx_G D t (gx_E0 aa) l R cc RL nL J) {M : Nat} (hM : M ≤ R.cells ∧ 6 * M ≤ R.slots) (hst : l.stackTraces = false) (hk : κ + 1 ≤ M) {σ : CS} {p1 : Int32} {q : (Int32 × CS)} (hf : fL_depthFromTop σ p1 = some q) (hp : w.Perm (kW aa ad t σ rs)) (hp' : (kW aa ad t q.2 rs).Perm w') (hR : 18 + 1 ≤ R.frames ∧ 8 + (3 + 11) + 446 ≤ R.locals) (hcat : (rest.map fun v => v.category).sum ≤ 8) (hd : decode cc pc = .ok (.invokestatic 329, 3)) (kk : J (κ + 1) (6 * (κ + 1)) w' (pc + 3) L (.int q.1 :: rest)) : J κ (6 * κ) w pc L (.int p1 :: .ref (ad 0) :: rest) := j_callH (na := 2) (As := [.ref (ad 0), .int p1]) g (hL_depthFromTop_ (rs := rs) hst hf) q_t_L_depthFromTop q_w_L_depthFromTop q_l_L_329 q_n_L (by decide) (by decide +kernel) rfl hR (lk_add hM hk) hcat hp hp' hd kk rfl
theorem lc_outputChar {D : va_G} {t : Nat → ClassId} {aa : gx_AA} {l : Launch} {R : Room} {cc : ByteArray} {nL : Nat} {J : gx_J} {ad : Nat → Nat} {rs w w' : va_W} {κ pc : Nat} {L : List (Nat × Value)} {rest : List Value} (g : gx_G D t (gx_E0 aa) l R cc RL nL J) {M : Nat} (hM : M ≤ R.cells ∧ 6 * M ≤ R.slots) (hst : l.stackTraces = false) (hk : κ + 1 ≤ M) {σ : CS} {p1 : Int32} {q : (Int32 × CS)} (hf : fL_outputChar σ p1 = some q) (hp : w.Perm (kW aa ad t σ rs)) (hp' : (kW aa ad t q.2 rs).Perm w') (hR : 7 + 1 ≤ R.frames ∧ 8 + (3 + 11) + 111 ≤ R.locals) (hcat : (rest.map fun v => v.category).sum ≤ 8) (hd : decode cc pc = .ok (.invokestatic 167, 3)) (kk : J (κ + 1) (6 * (κ + 1)) w' (pc + 3) L (.int q.1 :: rest)) : J κ (6 * κ) w pc L (.int p1 :: .ref (ad 0) :: rest) := j_callH (na := 2) (As := [.ref (ad 0), .int p1]) g (hL_outputChar_ (rs := rs) hst hf) q_t_L_outputChar q_w_L_outputChar q_l_L_167 q_n_L (by decide) (by decide +kernel) rfl hR (lk_add hM hk) hcat hp hp' hd kk rfl
theorem lv_isInNavy {D : va_G} {t : Nat → ClassId} {aa : gx_AA} {l : Launch} {R : Room} {cc : ByteArray} {nL : Nat} {J : gx_J} {ad : Nat → Nat} {rs w w' : va_W} {κ pc : Nat} {L : List (Nat × Value)} {rest : List Value} (g : gx_G D t (gx_E0 aa) l R cc RL nL J) {M : Nat} (hM : M ≤ R.cells ∧ 6 * M ≤ R.slots) (hk : κ ≤ M) {σ : CS} {p1 : Int32} {q : Int32} (hf : fX8_isInNavy σ p1 = some q) {ci q0 : Nat} {fs : List Value} (hci : ci = 9) (he : w[q0]? = some (ad 0, .inr (9, fs))) (hp : w.Perm (kW aa ad t σ rs)) (hp' : (kW aa ad t σ rs).Perm w') (hR : 1 + 1 ≤ R.frames ∧ 8 + (2 + 11) + 21 ≤ R.locals) (hcat : (rest.map fun v => v.category).sum ≤ 8) (hd : decode cc pc = .ok (.invokevirtual 223, 3)) (kk : J κ (6 * κ) w' (pc + 3) L (.int q :: rest)) : J κ (6 * κ) w pc L (.int p1 :: .ref (ad 0) :: rest) := j_callVi (na := 1) (As := [.int p1]) (ci := 9) g (cX8_isInNavy_ (rs := rs) hf) q_i_X8_isInNavy q_s_X8_isInNavy rfl rfl he q_c_X8_isInNavy q_l_L_223 q_n_X8 (by decide +kernel) rfl hR (lk_le hM hk) hcat hp hp' hd kk rfl
theorem lc_isPair {D : va_G} {t : Nat → ClassId} {aa : gx_AA} {l : Launch} {R : Room} {cc : ByteArray} {nL : Nat} {J : gx_J} {ad : Nat → Nat} {rs w w' : va_W} {κ pc : Nat} {L : List (Nat × Value)} {rest : List Value} (g : gx_G D t (gx_E0 aa) l R cc RL nL J) {M : Nat} (hM : M ≤ R.cells ∧ 6 * M ≤ R.slots) (hst : l.stackTraces = false) (hxl : xL aa < 2 ^ 31) (hk : κ + 30 ≤ M) {σ : CS} {p1 : Int32} {p2 : Int32} {p3 : Int32} {q : (Int32 × LwS)} (hf : fL_isPair aa σ p1 p2 p3 = some q) (hp : w.Perm (kW aa ad t σ rs)) (hp' : (kW aa ad t q.2.1 rs).Perm w') (hR : 9 + 1 ≤ R.frames ∧ 8 + (12 + 11) + 160 ≤ R.locals) (hcat : (rest.map fun v => v.category).sum ≤ 8) (hd : decode cc pc = .ok (.invokestatic 321, 3)) (kk : J (κ + 30) (6 * (κ + 30)) w' (pc + 3) L (.int q.1 :: rest)) : J κ (6 * κ) w pc L (.int p3 :: .int p2 :: .int p1 :: .ref (ad 0) :: rest) := j_callMi (na := 4) (As := [.ref (ad 0), .int p1, .int p2, .int p3]) g (cL_isPair_ (rs := rs) hst hxl hf) q_t_L_isPair q_c_L_isPair q_l_L_321 q_n_L (by decide +kernel) rfl hR (lk_cap hM hk) hcat hp hp' hd (by rw [Nat.mul_add] at kk; exact kk) rfl
set_option maxRecDepth 100000 in
set_option maxHeartbeats 8000000 in
theorem tL_isOfficer_76 {D : va_G} {t : Nat → ClassId} {aa : gx_AA} {l : Launch} {J : gx_J} {ad : Nat → Nat} {rs : va_W} {k8 : LwS → Int32 → Int32 → Int32 → Int32 → Int32 → Option (Int32 × LwS)} {q : (Int32 × LwS)} (hst : l.stackTraces = false) (hxl : xL aa < 2 ^ 31) (g : gx_G D t (gx_E0 aa) l ({ frames := 21, cells := 420, slots := 2520, locals := 510 }) cL_isOfficer RL 8 J) (hE : ∀ (v : Int32) (σ : LwS) (pc : Nat) (L : List (Nat × Value)), some (v, σ) = some q → σ.2 ≤ 420 → decode cL_isOfficer pc = .ok (.ireturn, 1) → narrow .boolean (.int v) = .int v → J σ.2 (6 * σ.2) (kW aa ad t σ.1 rs) pc L [.int v]) (hk8 : ∀ (σ : LwS) (v1 : Int32) (v2 : Int32) (v3 : Int32) (v4 : Int32) (v5 : Int32), k8 σ v1 v2 v3 v4 v5 = some q → J σ.2 (6 * σ.2) (kW aa ad t σ.1 rs) 8 [(0, .ref (ad 0)), (1, .int v1), (2, .int v2), (3, .int v3), (4, .int v4), (5, .int v5)] []) : ∀ (σ : LwS) (v1 : Int32) (v2 : Int32) (v3 : Int32) (v4 : Int32) (v5 : Int32), fL_isOfficer_76 aa k8 σ v1 v2 v3 v4 v5 = some q → J σ.2 (6 * σ.2) (kW aa ad t σ.1 rs) 76 [(0, .ref (ad 0)), (1, .int v1), (2, .int v2), (3, .int v3), (4, .int v4), (5, .int v5)] [] := by
  intro σ v1 v2 v3 v4 v5 hf
  unfold fL_isOfficer_76 at hf
  refine j_aload_n (pc := 76) g 0 dL_isOfficer_76 rfl ?_
  refine j_iload_n (pc := 77) g 1 dL_isOfficer_77 rfl ?_
  refine j_iload (pc := 78) g 5 dL_isOfficer_78 rfl ?_
  refine j_iload_n (pc := 80) g 2 dL_isOfficer_80 rfl ?_
  obtain ⟨k_81, hf⟩ := gx_ck hf
  obtain ⟨r81, h_81, hf⟩ := gx_bs hf
  refine lc_isPair (pc := 81) g (M := 420) ⟨(Nat.le_of_ble_eq_true rfl), (Nat.le_of_ble_eq_true rfl)⟩ hst hxl k_81 h_81 (.refl _) (.refl _) ⟨(Nat.le_of_ble_eq_true rfl), (Nat.le_of_ble_eq_true rfl)⟩ (Nat.le_of_ble_eq_true rfl) dL_isOfficer_81 ?_
  refine j_if_ne (tgt := 89) (pc := 84) g dL_isOfficer_84 (by decide) (fun c_84 => ?_) (fun c_84 => ?_)
  · have hf := gx_if c_84 hf
    refine j_iinc (v := v5 + 1) (L' := [(5, .int (v5 + 1)), (0, .ref (ad 0)), (1, .int v1), (2, .int v2), (3, .int v3), (4, .int v4)]) (pc := 89) g 5 dL_isOfficer_89 rfl rfl (Nat.le_of_ble_eq_true rfl) rfl ?_
    refine j_goto (tgt := 8) (pc := 92) g dL_isOfficer_92 (by decide) ?_
    refine j_sub (pc := 8) g [1, 2, 3, 4, 5, 0] rfl ?_
    exact hk8 (r81.2.1, σ.2 + 30) v1 v2 v3 v4 (v5 + 1) hf
  · have hf := gx_it c_84 hf
    refine j_iconst (v := 0) (pc := 87) g dL_isOfficer_87 (by decide) ?_
    obtain ⟨h_k, hf⟩ := gx_ck hf
    exact hE _ _ _ _ hf h_k dL_isOfficer_88 rfl
set_option maxRecDepth 100000 in
set_option maxHeartbeats 8000000 in
theorem tL_isOfficer_58 {D : va_G} {t : Nat → ClassId} {aa : gx_AA} {l : Launch} {J : gx_J} {ad : Nat → Nat} {rs : va_W} {k8 : LwS → Int32 → Int32 → Int32 → Int32 → Int32 → Option (Int32 × LwS)} {q : (Int32 × LwS)} (hst : l.stackTraces = false) (hxl : xL aa < 2 ^ 31) (g : gx_G D t (gx_E0 aa) l ({ frames := 21, cells := 420, slots := 2520, locals := 510 }) cL_isOfficer RL 8 J) (hE : ∀ (v : Int32) (σ : LwS) (pc : Nat) (L : List (Nat × Value)), some (v, σ) = some q → σ.2 ≤ 420 → decode cL_isOfficer pc = .ok (.ireturn, 1) → narrow .boolean (.int v) = .int v → J σ.2 (6 * σ.2) (kW aa ad t σ.1 rs) pc L [.int v]) (hk8 : ∀ (σ : LwS) (v1 : Int32) (v2 : Int32) (v3 : Int32) (v4 : Int32) (v5 : Int32), k8 σ v1 v2 v3 v4 v5 = some q → J σ.2 (6 * σ.2) (kW aa ad t σ.1 rs) 8 [(0, .ref (ad 0)), (1, .int v1), (2, .int v2), (3, .int v3), (4, .int v4), (5, .int v5)] []) : ∀ (σ : LwS) (v1 : Int32) (v2 : Int32) (v3 : Int32) (v4 : Int32) (v5 : Int32) (v6 : Int32), fL_isOfficer_58 aa k8 σ v1 v2 v3 v4 v5 v6 = some q → J σ.2 (6 * σ.2) (kW aa ad t σ.1 rs) 58 [(0, .ref (ad 0)), (1, .int v1), (2, .int v2), (3, .int v3), (4, .int v4), (5, .int v5), (6, .int v6)] [] := by
  intro σ v1 v2 v3 v4 v5 v6 hf
  unfold fL_isOfficer_58 at hf
  refine j_iload_n (pc := 58) g 3 dL_isOfficer_58 rfl ?_
  refine j_iload (pc := 59) g 6 dL_isOfficer_59 rfl ?_
  refine j_if_eq (tgt := 73) (pc := 61) g dL_isOfficer_61 (by decide) (fun c_61 => ?_) (fun c_61 => ?_)
  · have hf := gx_it c_61 hf
    refine j_iconst (v := 0) (pc := 73) g dL_isOfficer_73 (by decide) ?_
    refine j_iadd (pc := 74) g dL_isOfficer_74 ?_
    refine j_istore_n (L' := [(3, .int (v3 + (0 : Int32))), (0, .ref (ad 0)), (1, .int v1), (2, .int v2), (4, .int v4), (5, .int v5), (6, .int v6)]) (pc := 75) g dL_isOfficer_75 rfl (Nat.le_of_ble_eq_true rfl) rfl ?_
    refine j_sub (pc := 76) g [1, 2, 3, 0, 4, 5] rfl ?_
    exact tL_isOfficer_76 hst hxl g hE hk8 σ v1 v2 (v3 + (0 : Int32)) v4 v5 hf
  · have hf := gx_if c_61 hf
    refine j_aload_n (pc := 64) g 0 dL_isOfficer_64 rfl ?_
    refine j_iload (pc := 65) g 5 dL_isOfficer_65 rfl ?_
    obtain ⟨k_67, hf⟩ := gx_ck hf
    obtain ⟨r67, h_67, hf⟩ := gx_bs hf
    refine lc_commandSize (pc := 67) g (M := 420) ⟨(Nat.le_of_ble_eq_true rfl), (Nat.le_of_ble_eq_true rfl)⟩ hst k_67 h_67 (.refl _) (.refl _) ⟨(Nat.le_of_ble_eq_true rfl), (Nat.le_of_ble_eq_true rfl)⟩ (Nat.le_of_ble_eq_true rfl) dL_isOfficer_67 ?_
    refine j_goto (tgt := 74) (pc := 70) g dL_isOfficer_70 (by decide) ?_
    refine j_iadd (pc := 74) g dL_isOfficer_74 ?_
    refine j_istore_n (L' := [(3, .int (v3 + r67.1)), (0, .ref (ad 0)), (1, .int v1), (2, .int v2), (4, .int v4), (5, .int v5), (6, .int v6)]) (pc := 75) g dL_isOfficer_75 rfl (Nat.le_of_ble_eq_true rfl) rfl ?_
    refine j_sub (pc := 76) g [1, 2, 3, 0, 4, 5] rfl ?_
    exact tL_isOfficer_76 hst hxl g hE hk8 (r67.2, σ.2 + 1) v1 v2 (v3 + r67.1) v4 v5 hf
set_option maxRecDepth 100000 in
set_option maxHeartbeats 8000000 in
theorem tL_isOfficer_43 {D : va_G} {t : Nat → ClassId} {aa : gx_AA} {l : Launch} {J : gx_J} {ad : Nat → Nat} {rs : va_W} {k8 : LwS → Int32 → Int32 → Int32 → Int32 → Int32 → Option (Int32 × LwS)} {q : (Int32 × LwS)} (hst : l.stackTraces = false) (hxl : xL aa < 2 ^ 31) (g : gx_G D t (gx_E0 aa) l ({ frames := 21, cells := 420, slots := 2520, locals := 510 }) cL_isOfficer RL 8 J) (hE : ∀ (v : Int32) (σ : LwS) (pc : Nat) (L : List (Nat × Value)), some (v, σ) = some q → σ.2 ≤ 420 → decode cL_isOfficer pc = .ok (.ireturn, 1) → narrow .boolean (.int v) = .int v → J σ.2 (6 * σ.2) (kW aa ad t σ.1 rs) pc L [.int v]) (hk8 : ∀ (σ : LwS) (v1 : Int32) (v2 : Int32) (v3 : Int32) (v4 : Int32) (v5 : Int32), k8 σ v1 v2 v3 v4 v5 = some q → J σ.2 (6 * σ.2) (kW aa ad t σ.1 rs) 8 [(0, .ref (ad 0)), (1, .int v1), (2, .int v2), (3, .int v3), (4, .int v4), (5, .int v5)] []) : ∀ (σ : LwS) (v1 : Int32) (v2 : Int32) (v3 : Int32) (v4 : Int32) (v5 : Int32) (v6 : Int32), fL_isOfficer_43 aa k8 σ v1 v2 v3 v4 v5 v6 = some q → J σ.2 (6 * σ.2) (kW aa ad t σ.1 rs) 43 [(0, .ref (ad 0)), (1, .int v1), (2, .int v2), (3, .int v3), (4, .int v4), (5, .int v5), (6, .int v6)] [] := by
  intro σ v1 v2 v3 v4 v5 v6 hf
  unfold fL_isOfficer_43 at hf
  refine j_iload (pc := 43) g 4 dL_isOfficer_43 rfl ?_
  refine j_iload (pc := 45) g 6 dL_isOfficer_45 rfl ?_
  refine j_if_eq (tgt := 54) (pc := 47) g dL_isOfficer_47 (by decide) (fun c_47 => ?_) (fun c_47 => ?_)
  · have hf := gx_it c_47 hf
    refine j_iconst (v := 0) (pc := 54) g dL_isOfficer_54 (by decide) ?_
    refine j_iadd (pc := 55) g dL_isOfficer_55 ?_
    refine j_istore (L' := [(4, .int (v4 + (0 : Int32))), (0, .ref (ad 0)), (1, .int v1), (2, .int v2), (3, .int v3), (5, .int v5), (6, .int v6)]) (pc := 56) g dL_isOfficer_56 (Nat.le_of_ble_eq_true rfl) rfl ?_
    refine j_sub (pc := 58) g [1, 2, 3, 4, 0, 5, 6] rfl ?_
    exact tL_isOfficer_58 hst hxl g hE hk8 σ v1 v2 v3 (v4 + (0 : Int32)) v5 v6 hf
  · have hf := gx_if c_47 hf
    refine j_iconst (v := 1) (pc := 50) g dL_isOfficer_50 (by decide) ?_
    refine j_goto (tgt := 55) (pc := 51) g dL_isOfficer_51 (by decide) ?_
    refine j_iadd (pc := 55) g dL_isOfficer_55 ?_
    refine j_istore (L' := [(4, .int (v4 + (1 : Int32))), (0, .ref (ad 0)), (1, .int v1), (2, .int v2), (3, .int v3), (5, .int v5), (6, .int v6)]) (pc := 56) g dL_isOfficer_56 (Nat.le_of_ble_eq_true rfl) rfl ?_
    refine j_sub (pc := 58) g [1, 2, 3, 4, 0, 5, 6] rfl ?_
    exact tL_isOfficer_58 hst hxl g hE hk8 σ v1 v2 v3 (v4 + (1 : Int32)) v5 v6 hf
set_option maxRecDepth 100000 in
set_option maxHeartbeats 8000000 in
theorem tL_isOfficer_239 {D : va_G} {t : Nat → ClassId} {aa : gx_AA} {l : Launch} {J : gx_J} {ad : Nat → Nat} {rs : va_W} {q : (Int32 × LwS)} (hst : l.stackTraces = false) (hxl : xL aa < 2 ^ 31) (g : gx_G D t (gx_E0 aa) l ({ frames := 21, cells := 420, slots := 2520, locals := 510 }) cL_isOfficer RL 8 J) (hE : ∀ (v : Int32) (σ : LwS) (pc : Nat) (L : List (Nat × Value)), some (v, σ) = some q → σ.2 ≤ 420 → decode cL_isOfficer pc = .ok (.ireturn, 1) → narrow .boolean (.int v) = .int v → J σ.2 (6 * σ.2) (kW aa ad t σ.1 rs) pc L [.int v])  : ∀ (σ : LwS) (v1 : Int32) (v3 : Int32) (v4 : Int32) (v5 : Int32) (v6 : Int32), fL_isOfficer_239 aa σ v1 v3 v4 v5 v6 = some q → J σ.2 (6 * σ.2) (kW aa ad t σ.1 rs) 239 [(0, .ref (ad 0)), (1, .int v1), (3, .int v3), (4, .int v4), (5, .int v5), (6, .int v6)] [] := by
  intro σ v1 v3 v4 v5 v6 hf
  unfold fL_isOfficer_239 at hf
  refine j_aload_n (pc := 239) g 0 dL_isOfficer_239 rfl ?_
  refine j_iload_n (pc := 240) g 1 dL_isOfficer_240 rfl ?_
  obtain ⟨k_241, hf⟩ := gx_ck hf
  obtain ⟨r241, h_241, hf⟩ := gx_bs hf
  refine lc_writeCommand (pc := 241) g (M := 420) ⟨(Nat.le_of_ble_eq_true rfl), (Nat.le_of_ble_eq_true rfl)⟩ hst k_241 h_241 (.refl _) (.refl _) ⟨(Nat.le_of_ble_eq_true rfl), (Nat.le_of_ble_eq_true rfl)⟩ (Nat.le_of_ble_eq_true rfl) dL_isOfficer_241 ?_
  refine j_istore (L' := [(7, .int r241.1), (0, .ref (ad 0)), (1, .int v1), (3, .int v3), (4, .int v4), (5, .int v5), (6, .int v6)]) (pc := 244) g dL_isOfficer_244 (Nat.le_of_ble_eq_true rfl) rfl ?_
  refine j_iload (pc := 246) g 5 dL_isOfficer_246 rfl ?_
  refine j_if_eq (tgt := 338) (pc := 248) g dL_isOfficer_248 (by decide) (fun c_248 => ?_) (fun c_248 => ?_)
  · have hf := gx_it c_248 hf
    refine j_iconst (v := 0) (pc := 338) g dL_isOfficer_338 (by decide) ?_
    obtain ⟨h_k, hf⟩ := gx_ck hf
    exact hE _ _ _ _ hf h_k dL_isOfficer_339 rfl
  · have hf := gx_if c_248 hf
    refine j_iload (pc := 251) g 6 dL_isOfficer_251 rfl ?_
    refine j_if_eq (tgt := 338) (pc := 253) g dL_isOfficer_253 (by decide) (fun c_253 => ?_) (fun c_253 => ?_)
    · have hf := gx_it c_253 hf
      refine j_iconst (v := 0) (pc := 338) g dL_isOfficer_338 (by decide) ?_
      obtain ⟨h_k, hf⟩ := gx_ck hf
      exact hE _ _ _ _ hf h_k dL_isOfficer_339 rfl
    · have hf := gx_if c_253 hf
      refine j_aload_n (pc := 256) g 1 dL_isOfficer_256 rfl ?_
      refine j_iload_n (pc := 257) g 2 dL_isOfficer_257 rfl ?_
      obtain ⟨k_258, hf⟩ := gx_ck hf
      obtain ⟨r258, h_258, hf⟩ := gx_bs hf
      refine lc_commandSize (pc := 258) g (M := 420) ⟨(Nat.le_of_ble_eq_true rfl), (Nat.le_of_ble_eq_true rfl)⟩ hst k_258 h_258 (.refl _) (.refl _) ⟨(Nat.le_of_ble_eq_true rfl), (Nat.le_of_ble_eq_true rfl)⟩ (Nat.le_of_ble_eq_true rfl) dL_isOfficer_258 ?_
      refine j_iload_n (pc := 261) g 3 dL_isOfficer_261 rfl ?_
      refine j_icmp_ne (tgt := 338) (pc := 262) g dL_isOfficer_262 (by decide) (fun c_262 => ?_) (fun c_262 => ?_)
      · have hf := gx_if c_262 hf
        refine j_iconst (v := 0) (pc := 338) g dL_isOfficer_338 (by decide) ?_
        obtain ⟨h_k, hf⟩ := gx_ck hf
        exact hE _ _ _ _ hf h_k dL_isOfficer_339 rfl
      · have hf := gx_it c_262 hf
        refine j_aload_n (pc := 265) g 1 dL_isOfficer_265 rfl ?_
        refine j_iload_n (pc := 266) g 2 dL_isOfficer_266 rfl ?_
        obtain ⟨k_267, hf⟩ := gx_ck hf
        obtain ⟨r267, h_267, hf⟩ := gx_bs hf
        refine lc_commandSizeByCounting (pc := 267) g (M := 420) ⟨(Nat.le_of_ble_eq_true rfl), (Nat.le_of_ble_eq_true rfl)⟩ hst k_267 h_267 (.refl _) (.refl _) ⟨(Nat.le_of_ble_eq_true rfl), (Nat.le_of_ble_eq_true rfl)⟩ (Nat.le_of_ble_eq_true rfl) dL_isOfficer_267 ?_
        refine j_iload_n (pc := 270) g 3 dL_isOfficer_270 rfl ?_
        refine j_icmp_ne (tgt := 338) (pc := 271) g dL_isOfficer_271 (by decide) (fun c_271 => ?_) (fun c_271 => ?_)
        · have hf := gx_if c_271 hf
          refine j_iconst (v := 0) (pc := 338) g dL_isOfficer_338 (by decide) ?_
          obtain ⟨h_k, hf⟩ := gx_ck hf
          exact hE _ _ _ _ hf h_k dL_isOfficer_339 rfl
        · have hf := gx_it c_271 hf
          refine j_aload_n (pc := 274) g 1 dL_isOfficer_274 rfl ?_
          refine j_iload_n (pc := 275) g 2 dL_isOfficer_275 rfl ?_
          obtain ⟨k_276, hf⟩ := gx_ck hf
          obtain ⟨r276, h_276, hf⟩ := gx_bs hf
          refine lc_subordinates (pc := 276) g (M := 420) ⟨(Nat.le_of_ble_eq_true rfl), (Nat.le_of_ble_eq_true rfl)⟩ hst k_276 h_276 (.refl _) (.refl _) ⟨(Nat.le_of_ble_eq_true rfl), (Nat.le_of_ble_eq_true rfl)⟩ (Nat.le_of_ble_eq_true rfl) dL_isOfficer_276 ?_
          refine j_iload (pc := 279) g 4 dL_isOfficer_279 rfl ?_
          refine j_icmp_ne (tgt := 338) (pc := 281) g dL_isOfficer_281 (by decide) (fun c_281 => ?_) (fun c_281 => ?_)
          · have hf := gx_if c_281 hf
            refine j_iconst (v := 0) (pc := 338) g dL_isOfficer_338 (by decide) ?_
            obtain ⟨h_k, hf⟩ := gx_ck hf
            exact hE _ _ _ _ hf h_k dL_isOfficer_339 rfl
          · have hf := gx_it c_281 hf
            refine j_aload_n (pc := 284) g 1 dL_isOfficer_284 rfl ?_
            refine j_iload_n (pc := 285) g 2 dL_isOfficer_285 rfl ?_
            obtain ⟨k_286, hf⟩ := gx_ck hf
            obtain ⟨r286, h_286, hf⟩ := gx_bs hf
            refine lc_depthFromTop (pc := 286) g (M := 420) ⟨(Nat.le_of_ble_eq_true rfl), (Nat.le_of_ble_eq_true rfl)⟩ hst k_286 h_286 (.refl _) (.refl _) ⟨(Nat.le_of_ble_eq_true rfl), (Nat.le_of_ble_eq_true rfl)⟩ (Nat.le_of_ble_eq_true rfl) dL_isOfficer_286 ?_
            refine j_aload_n (pc := 289) g 1 dL_isOfficer_289 rfl ?_
            refine j_iload_n (pc := 290) g 2 dL_isOfficer_290 rfl ?_
            obtain ⟨k_291, hf⟩ := gx_ck hf
            obtain ⟨r291, h_291, hf⟩ := gx_bs hf
            refine lc_depth (pc := 291) g (M := 420) ⟨(Nat.le_of_ble_eq_true rfl), (Nat.le_of_ble_eq_true rfl)⟩ hst k_291 h_291 (.refl _) (.refl _) ⟨(Nat.le_of_ble_eq_true rfl), (Nat.le_of_ble_eq_true rfl)⟩ (Nat.le_of_ble_eq_true rfl) dL_isOfficer_291 ?_
            refine j_icmp_ne (tgt := 338) (pc := 294) g dL_isOfficer_294 (by decide) (fun c_294 => ?_) (fun c_294 => ?_)
            · have hf := gx_if c_294 hf
              refine j_iconst (v := 0) (pc := 338) g dL_isOfficer_338 (by decide) ?_
              obtain ⟨h_k, hf⟩ := gx_ck hf
              exact hE _ _ _ _ hf h_k dL_isOfficer_339 rfl
            · have hf := gx_it c_294 hf
              refine j_iload (pc := 297) g 0 dL_isOfficer_297 rfl ?_
              refine j_iconst (v := 1) (pc := 299) g dL_isOfficer_299 (by decide) ?_
              refine j_icmp_lt (tgt := 338) (pc := 300) g dL_isOfficer_300 (by decide) (fun c_300 => ?_) (fun c_300 => ?_)
              · have hf := gx_it c_300 hf
                refine j_iconst (v := 0) (pc := 338) g dL_isOfficer_338 (by decide) ?_
                obtain ⟨h_k, hf⟩ := gx_ck hf
                exact hE _ _ _ _ hf h_k dL_isOfficer_339 rfl
              · have hf := gx_if c_300 hf
                refine j_aload_n (pc := 303) g 1 dL_isOfficer_303 rfl ?_
                refine j_iload (pc := 304) g 0 dL_isOfficer_304 rfl ?_
                refine j_iconst (v := 1) (pc := 306) g dL_isOfficer_306 (by decide) ?_
                refine j_isub (pc := 307) g dL_isOfficer_307 ?_
                obtain ⟨k_308, hf⟩ := gx_ck hf
                obtain ⟨r308, h_308, hf⟩ := gx_bs hf
                refine lc_outputChar (pc := 308) g (M := 420) ⟨(Nat.le_of_ble_eq_true rfl), (Nat.le_of_ble_eq_true rfl)⟩ hst k_308 h_308 (.refl _) (.refl _) ⟨(Nat.le_of_ble_eq_true rfl), (Nat.le_of_ble_eq_true rfl)⟩ (Nat.le_of_ble_eq_true rfl) dL_isOfficer_308 ?_
                refine j_bipush (v := 41) (pc := 311) g dL_isOfficer_311 (by decide) ?_
                refine j_icmp_ne (tgt := 320) (pc := 313) g dL_isOfficer_313 (by decide) (fun c_313 => ?_) (fun c_313 => ?_)
                · have hf := gx_if c_313 hf
                  refine j_iconst (v := 0) (pc := 320) g dL_isOfficer_320 (by decide) ?_
                  refine j_iload (pc := 321) g 4 dL_isOfficer_321 rfl ?_
                  refine j_if_le (tgt := 330) (pc := 323) g dL_isOfficer_323 (by decide) (fun c_323 => ?_) (fun c_323 => ?_)
                  · have hf := gx_it c_323 hf
                    refine j_iconst (v := 0) (pc := 330) g dL_isOfficer_330 (by decide) ?_
                    refine j_icmp_ne (tgt := 338) (pc := 331) g dL_isOfficer_331 (by decide) (fun h => absurd h (by decide)) (fun _ => ?_)
                    refine j_iconst (v := 1) (pc := 334) g dL_isOfficer_334 (by decide) ?_
                    refine j_goto (tgt := 339) (pc := 335) g dL_isOfficer_335 (by decide) ?_
                    obtain ⟨h_k, hf⟩ := gx_ck hf
                    exact hE _ _ _ _ hf h_k dL_isOfficer_339 rfl
                  · have hf := gx_if c_323 hf
                    refine j_iconst (v := 1) (pc := 326) g dL_isOfficer_326 (by decide) ?_
                    refine j_goto (tgt := 331) (pc := 327) g dL_isOfficer_327 (by decide) ?_
                    refine j_icmp_ne (tgt := 338) (pc := 331) g dL_isOfficer_331 (by decide) (fun _ => ?_) (fun h => absurd h (by decide))
                    refine j_iconst (v := 0) (pc := 338) g dL_isOfficer_338 (by decide) ?_
                    obtain ⟨h_k, hf⟩ := gx_ck hf
                    exact hE _ _ _ _ hf h_k dL_isOfficer_339 rfl
                · have hf := gx_it c_313 hf
                  refine j_iconst (v := 1) (pc := 316) g dL_isOfficer_316 (by decide) ?_
                  refine j_goto (tgt := 321) (pc := 317) g dL_isOfficer_317 (by decide) ?_
                  refine j_iload (pc := 321) g 4 dL_isOfficer_321 rfl ?_
                  refine j_if_le (tgt := 330) (pc := 323) g dL_isOfficer_323 (by decide) (fun c_323 => ?_) (fun c_323 => ?_)
                  · have hf := gx_it c_323 hf
                    refine j_iconst (v := 0) (pc := 330) g dL_isOfficer_330 (by decide) ?_
                    refine j_icmp_ne (tgt := 338) (pc := 331) g dL_isOfficer_331 (by decide) (fun _ => ?_) (fun h => absurd h (by decide))
                    refine j_iconst (v := 0) (pc := 338) g dL_isOfficer_338 (by decide) ?_
                    obtain ⟨h_k, hf⟩ := gx_ck hf
                    exact hE _ _ _ _ hf h_k dL_isOfficer_339 rfl
                  · have hf := gx_if c_323 hf
                    refine j_iconst (v := 1) (pc := 326) g dL_isOfficer_326 (by decide) ?_
                    refine j_goto (tgt := 331) (pc := 327) g dL_isOfficer_327 (by decide) ?_
                    refine j_icmp_ne (tgt := 338) (pc := 331) g dL_isOfficer_331 (by decide) (fun h => absurd h (by decide)) (fun _ => ?_)
                    refine j_iconst (v := 1) (pc := 334) g dL_isOfficer_334 (by decide) ?_
                    refine j_goto (tgt := 339) (pc := 335) g dL_isOfficer_335 (by decide) ?_
                    obtain ⟨h_k, hf⟩ := gx_ck hf
                    exact hE _ _ _ _ hf h_k dL_isOfficer_339 rfl
set_option maxRecDepth 100000 in
set_option maxHeartbeats 8000000 in
theorem tL_isOfficer_236 {D : va_G} {t : Nat → ClassId} {aa : gx_AA} {l : Launch} {J : gx_J} {ad : Nat → Nat} {rs : va_W} {q : (Int32 × LwS)} (hst : l.stackTraces = false) (hxl : xL aa < 2 ^ 31) (g : gx_G D t (gx_E0 aa) l ({ frames := 21, cells := 420, slots := 2520, locals := 510 }) cL_isOfficer RL 8 J) (hE : ∀ (v : Int32) (σ : LwS) (pc : Nat) (L : List (Nat × Value)), some (v, σ) = some q → σ.2 ≤ 420 → decode cL_isOfficer pc = .ok (.ireturn, 1) → narrow .boolean (.int v) = .int v → J σ.2 (6 * σ.2) (kW aa ad t σ.1 rs) pc L [.int v])  : ∀ (σ : LwS) (v1 : Int32) (v3 : Int32) (v4 : Int32) (v5 : Int32), fL_isOfficer_236 aa σ v1 v3 v4 v5 = some q → J σ.2 (6 * σ.2) (kW aa ad t σ.1 rs) 236 [(0, .ref (ad 0)), (1, .int v1), (3, .int v3), (4, .int v4), (5, .int v5)] [] := by
  intro σ v1 v3 v4 v5 hf
  unfold fL_isOfficer_236 at hf
  refine j_iconst (v := 0) (pc := 236) g dL_isOfficer_236 (by decide) ?_
  refine j_istore (L' := [(6, .int (0 : Int32)), (0, .ref (ad 0)), (1, .int v1), (3, .int v3), (4, .int v4), (5, .int v5)]) (pc := 237) g dL_isOfficer_237 (Nat.le_of_ble_eq_true rfl) rfl ?_
  refine j_sub (pc := 239) g [1, 2, 3, 4, 5, 0] rfl ?_
  exact tL_isOfficer_239 hst hxl g hE σ v1 v3 v4 v5 (0 : Int32) hf
set_option maxRecDepth 100000 in
set_option maxHeartbeats 8000000 in
theorem tL_isOfficer_188 {D : va_G} {t : Nat → ClassId} {aa : gx_AA} {l : Launch} {J : gx_J} {ad : Nat → Nat} {rs : va_W} {q : (Int32 × LwS)} (hst : l.stackTraces = false) (hxl : xL aa < 2 ^ 31) (g : gx_G D t (gx_E0 aa) l ({ frames := 21, cells := 420, slots := 2520, locals := 510 }) cL_isOfficer RL 8 J) (hE : ∀ (v : Int32) (σ : LwS) (pc : Nat) (L : List (Nat × Value)), some (v, σ) = some q → σ.2 ≤ 420 → decode cL_isOfficer pc = .ok (.ireturn, 1) → narrow .boolean (.int v) = .int v → J σ.2 (6 * σ.2) (kW aa ad t σ.1 rs) pc L [.int v])  : ∀ (σ : LwS) (v1 : Int32) (v3 : Int32) (v4 : Int32) (v5 : Int32), fL_isOfficer_188 aa σ v1 v3 v4 v5 = some q → J σ.2 (6 * σ.2) (kW aa ad t σ.1 rs) 188 [(0, .ref (ad 0)), (1, .int v1), (3, .int v3), (4, .int v4), (5, .int v5)] [] := by
  intro σ v1 v3 v4 v5 hf
  unfold fL_isOfficer_188 at hf
  refine j_aload_n (pc := 188) g 0 dL_isOfficer_188 rfl ?_
  refine j_iload_n (pc := 189) g 1 dL_isOfficer_189 rfl ?_
  obtain ⟨k_190, hf⟩ := gx_ck hf
  obtain ⟨r190, h_190, hf⟩ := gx_bs hf
  refine lc_loyalty (pc := 190) g (M := 420) ⟨(Nat.le_of_ble_eq_true rfl), (Nat.le_of_ble_eq_true rfl)⟩ hst k_190 h_190 (.refl _) (.refl _) ⟨(Nat.le_of_ble_eq_true rfl), (Nat.le_of_ble_eq_true rfl)⟩ (Nat.le_of_ble_eq_true rfl) dL_isOfficer_190 ?_
  refine j_if_lt (tgt := 236) (pc := 193) g dL_isOfficer_193 (by decide) (fun c_193 => ?_) (fun c_193 => ?_)
  · have hf := gx_it c_193 hf
    refine j_sub (pc := 236) g [0, 1, 2, 3, 4] rfl ?_
    exact tL_isOfficer_236 hst hxl g hE (r190.2, σ.2 + 1) v1 v3 v4 v5 hf
  · have hf := gx_if c_193 hf
    refine j_aload_n (pc := 196) g 0 dL_isOfficer_196 rfl ?_
    refine j_iload_n (pc := 197) g 1 dL_isOfficer_197 rfl ?_
    obtain ⟨k_198, hf⟩ := gx_ck hf
    obtain ⟨r198, h_198, hf⟩ := gx_bs hf
    refine lc_loyalty (pc := 198) g (M := 420) ⟨(Nat.le_of_ble_eq_true rfl), (Nat.le_of_ble_eq_true rfl)⟩ hst k_198 h_198 (.refl _) (.refl _) ⟨(Nat.le_of_ble_eq_true rfl), (Nat.le_of_ble_eq_true rfl)⟩ (Nat.le_of_ble_eq_true rfl) dL_isOfficer_198 ?_
    refine j_bipush (v := 100) (pc := 201) g dL_isOfficer_201 (by decide) ?_
    refine j_icmp_gt (tgt := 236) (pc := 203) g dL_isOfficer_203 (by decide) (fun c_203 => ?_) (fun c_203 => ?_)
    · have hf := gx_it c_203 hf
      refine j_sub (pc := 236) g [0, 1, 2, 3, 4] rfl ?_
      exact tL_isOfficer_236 hst hxl g hE (r198.2, (σ.2 + 1) + 1) v1 v3 v4 v5 hf
    · have hf := gx_if c_203 hf
      refine j_aload_n (pc := 206) g 0 dL_isOfficer_206 rfl ?_
      refine j_iload_n (pc := 207) g 1 dL_isOfficer_207 rfl ?_
      obtain ⟨k_208, hf⟩ := gx_ck hf
      obtain ⟨r208, h_208, hf⟩ := gx_bs hf
      refine lc_refusals (pc := 208) g (M := 420) ⟨(Nat.le_of_ble_eq_true rfl), (Nat.le_of_ble_eq_true rfl)⟩ hst k_208 h_208 (.refl _) (.refl _) ⟨(Nat.le_of_ble_eq_true rfl), (Nat.le_of_ble_eq_true rfl)⟩ (Nat.le_of_ble_eq_true rfl) dL_isOfficer_208 ?_
      refine j_if_lt (tgt := 236) (pc := 211) g dL_isOfficer_211 (by decide) (fun c_211 => ?_) (fun c_211 => ?_)
      · have hf := gx_it c_211 hf
        refine j_sub (pc := 236) g [0, 1, 2, 3, 4] rfl ?_
        exact tL_isOfficer_236 hst hxl g hE (r208.2, ((σ.2 + 1) + 1) + 1) v1 v3 v4 v5 hf
      · have hf := gx_if c_211 hf
        refine j_aload_n (pc := 214) g 0 dL_isOfficer_214 rfl ?_
        refine j_iload_n (pc := 215) g 1 dL_isOfficer_215 rfl ?_
        obtain ⟨k_216, hf⟩ := gx_ck hf
        obtain ⟨r216, h_216, hf⟩ := gx_bs hf
        refine lc_refusals (pc := 216) g (M := 420) ⟨(Nat.le_of_ble_eq_true rfl), (Nat.le_of_ble_eq_true rfl)⟩ hst k_216 h_216 (.refl _) (.refl _) ⟨(Nat.le_of_ble_eq_true rfl), (Nat.le_of_ble_eq_true rfl)⟩ (Nat.le_of_ble_eq_true rfl) dL_isOfficer_216 ?_
        refine j_iconst (v := 2) (pc := 219) g dL_isOfficer_219 (by decide) ?_
        refine j_icmp_gt (tgt := 236) (pc := 220) g dL_isOfficer_220 (by decide) (fun c_220 => ?_) (fun c_220 => ?_)
        · have hf := gx_it c_220 hf
          refine j_sub (pc := 236) g [0, 1, 2, 3, 4] rfl ?_
          exact tL_isOfficer_236 hst hxl g hE (r216.2, (((σ.2 + 1) + 1) + 1) + 1) v1 v3 v4 v5 hf
        · have hf := gx_if c_220 hf
          refine j_aload_n (pc := 223) g 0 dL_isOfficer_223 rfl ?_
          refine j_iload_n (pc := 224) g 1 dL_isOfficer_224 rfl ?_
          obtain ⟨k_225, hf⟩ := gx_ck hf
          obtain ⟨r225, h_225, hf⟩ := gx_bs hf
          refine lc_rank (pc := 225) g (M := 420) ⟨(Nat.le_of_ble_eq_true rfl), (Nat.le_of_ble_eq_true rfl)⟩ hst k_225 h_225 (.refl _) (.refl _) ⟨(Nat.le_of_ble_eq_true rfl), (Nat.le_of_ble_eq_true rfl)⟩ (Nat.le_of_ble_eq_true rfl) dL_isOfficer_225 ?_
          refine j_iconst (v := 1) (pc := 228) g dL_isOfficer_228 (by decide) ?_
          refine j_icmp_lt (tgt := 236) (pc := 229) g dL_isOfficer_229 (by decide) (fun c_229 => ?_) (fun c_229 => ?_)
          · have hf := gx_it c_229 hf
            refine j_sub (pc := 236) g [0, 1, 2, 3, 4] rfl ?_
            exact tL_isOfficer_236 hst hxl g hE (r225.2, ((((σ.2 + 1) + 1) + 1) + 1) + 1) v1 v3 v4 v5 hf
          · have hf := gx_if c_229 hf
            refine j_iconst (v := 1) (pc := 232) g dL_isOfficer_232 (by decide) ?_
            refine j_goto (tgt := 237) (pc := 233) g dL_isOfficer_233 (by decide) ?_
            refine j_istore (L' := [(6, .int (1 : Int32)), (0, .ref (ad 0)), (1, .int v1), (3, .int v3), (4, .int v4), (5, .int v5)]) (pc := 237) g dL_isOfficer_237 (Nat.le_of_ble_eq_true rfl) rfl ?_
            refine j_sub (pc := 239) g [1, 2, 3, 4, 5, 0] rfl ?_
            exact tL_isOfficer_239 hst hxl g hE (r225.2, ((((σ.2 + 1) + 1) + 1) + 1) + 1) v1 v3 v4 v5 (1 : Int32) hf
set_option maxRecDepth 100000 in
set_option maxHeartbeats 8000000 in
theorem tL_isOfficer_131 {D : va_G} {t : Nat → ClassId} {aa : gx_AA} {l : Launch} {J : gx_J} {ad : Nat → Nat} {rs : va_W} {q : (Int32 × LwS)} (hst : l.stackTraces = false) (hxl : xL aa < 2 ^ 31) (g : gx_G D t (gx_E0 aa) l ({ frames := 21, cells := 420, slots := 2520, locals := 510 }) cL_isOfficer RL 8 J) (hE : ∀ (v : Int32) (σ : LwS) (pc : Nat) (L : List (Nat × Value)), some (v, σ) = some q → σ.2 ≤ 420 → decode cL_isOfficer pc = .ok (.ireturn, 1) → narrow .boolean (.int v) = .int v → J σ.2 (6 * σ.2) (kW aa ad t σ.1 rs) pc L [.int v])  : ∀ (σ : LwS) (v1 : Int32) (v3 : Int32) (v4 : Int32), fL_isOfficer_131 aa σ v1 v3 v4 = some q → J σ.2 (6 * σ.2) (kW aa ad t σ.1 rs) 131 [(0, .ref (ad 0)), (1, .int v1), (3, .int v3), (4, .int v4)] [] := by
  intro σ v1 v3 v4 hf
  unfold fL_isOfficer_131 at hf
  refine j_iconst (v := 0) (pc := 131) g dL_isOfficer_131 (by decide) ?_
  refine j_goto (tgt := 186) (pc := 132) g dL_isOfficer_132 (by decide) ?_
  refine j_istore (L' := [(5, .int (0 : Int32)), (0, .ref (ad 0)), (1, .int v1), (3, .int v3), (4, .int v4)]) (pc := 186) g dL_isOfficer_186 (Nat.le_of_ble_eq_true rfl) rfl ?_
  refine j_sub (pc := 188) g [1, 2, 3, 4, 0] rfl ?_
  exact tL_isOfficer_188 hst hxl g hE σ v1 v3 v4 (0 : Int32) hf
set_option maxRecDepth 100000 in
set_option maxHeartbeats 8000000 in
theorem tL_isOfficer_185 {D : va_G} {t : Nat → ClassId} {aa : gx_AA} {l : Launch} {J : gx_J} {ad : Nat → Nat} {rs : va_W} {q : (Int32 × LwS)} (hst : l.stackTraces = false) (hxl : xL aa < 2 ^ 31) (g : gx_G D t (gx_E0 aa) l ({ frames := 21, cells := 420, slots := 2520, locals := 510 }) cL_isOfficer RL 8 J) (hE : ∀ (v : Int32) (σ : LwS) (pc : Nat) (L : List (Nat × Value)), some (v, σ) = some q → σ.2 ≤ 420 → decode cL_isOfficer pc = .ok (.ireturn, 1) → narrow .boolean (.int v) = .int v → J σ.2 (6 * σ.2) (kW aa ad t σ.1 rs) pc L [.int v])  : ∀ (σ : LwS) (v1 : Int32) (v3 : Int32) (v4 : Int32), fL_isOfficer_185 aa σ v1 v3 v4 = some q → J σ.2 (6 * σ.2) (kW aa ad t σ.1 rs) 185 [(0, .ref (ad 0)), (1, .int v1), (3, .int v3), (4, .int v4)] [] := by
  intro σ v1 v3 v4 hf
  unfold fL_isOfficer_185 at hf
  refine j_iconst (v := 0) (pc := 185) g dL_isOfficer_185 (by decide) ?_
  refine j_istore (L' := [(5, .int (0 : Int32)), (0, .ref (ad 0)), (1, .int v1), (3, .int v3), (4, .int v4)]) (pc := 186) g dL_isOfficer_186 (Nat.le_of_ble_eq_true rfl) rfl ?_
  refine j_sub (pc := 188) g [1, 2, 3, 4, 0] rfl ?_
  exact tL_isOfficer_188 hst hxl g hE σ v1 v3 v4 (0 : Int32) hf
set_option maxRecDepth 100000 in
set_option maxHeartbeats 8000000 in
theorem tL_isOfficer_8 {D : va_G} {t : Nat → ClassId} {aa : gx_AA} {l : Launch} {J : gx_J} {ad : Nat → Nat} {rs : va_W} {q : (Int32 × LwS)} (hst : l.stackTraces = false) (hxl : xL aa < 2 ^ 31) (g : gx_G D t (gx_E0 aa) l ({ frames := 21, cells := 420, slots := 2520, locals := 510 }) cL_isOfficer RL 8 J) (hE : ∀ (v : Int32) (σ : LwS) (pc : Nat) (L : List (Nat × Value)), some (v, σ) = some q → σ.2 ≤ 420 → decode cL_isOfficer pc = .ok (.ireturn, 1) → narrow .boolean (.int v) = .int v → J σ.2 (6 * σ.2) (kW aa ad t σ.1 rs) pc L [.int v])  : ∀ (n : Nat) (σ : LwS) (v1 : Int32) (v2 : Int32) (v3 : Int32) (v4 : Int32) (v5 : Int32), fL_isOfficer_8 aa n σ v1 v2 v3 v4 v5 = some q → J σ.2 (6 * σ.2) (kW aa ad t σ.1 rs) 8 [(0, .ref (ad 0)), (1, .int v1), (2, .int v2), (3, .int v3), (4, .int v4), (5, .int v5)] [] := by
  intro n
  induction n with
  | zero => intro σ v1 v2 v3 v4 v5 hf; cases hf
  | succ n ih =>
    intro σ v1 v2 v3 v4 v5 hf
    replace hf := (fL_isOfficer_8_s aa n σ v1 v2 v3 v4 v5).symm.trans hf
    refine j_iload (pc := 8) g 5 dL_isOfficer_8 rfl ?_
    refine j_aload_n (pc := 10) g 0 dL_isOfficer_10 rfl ?_
    obtain ⟨k_11, hf⟩ := gx_ck hf
    obtain ⟨r11, h_11, hf⟩ := gx_bs hf
    refine lv_appointedCount (pc := 11) g (M := 420) ⟨(Nat.le_of_ble_eq_true rfl), (Nat.le_of_ble_eq_true rfl)⟩ k_11 h_11 (q0 := 0) rfl rfl (.refl _) (.refl _) ⟨(Nat.le_of_ble_eq_true rfl), (Nat.le_of_ble_eq_true rfl)⟩ (Nat.le_of_ble_eq_true rfl) dL_isOfficer_11 ?_
    refine j_icmp_ge (tgt := 95) (pc := 14) g dL_isOfficer_14 (by decide) (fun c_14 => ?_) (fun c_14 => ?_)
    · have hf := gx_it c_14 hf
      refine j_iload_n (pc := 95) g 1 dL_isOfficer_95 rfl ?_
      refine j_if_ne (tgt := 135) (pc := 96) g dL_isOfficer_96 (by decide) (fun c_96 => ?_) (fun c_96 => ?_)
      · have hf := gx_if c_96 hf
        refine j_aload_n (pc := 135) g 0 dL_isOfficer_135 rfl ?_
        refine j_aload_n (pc := 136) g 0 dL_isOfficer_136 rfl ?_
        refine j_iload_n (pc := 137) g 1 dL_isOfficer_137 rfl ?_
        obtain ⟨k_138, hf⟩ := gx_ck hf
        obtain ⟨r138, h_138, hf⟩ := gx_bs hf
        refine lc_superior (pc := 138) g (M := 420) ⟨(Nat.le_of_ble_eq_true rfl), (Nat.le_of_ble_eq_true rfl)⟩ hst k_138 h_138 (.refl _) (.refl _) ⟨(Nat.le_of_ble_eq_true rfl), (Nat.le_of_ble_eq_true rfl)⟩ (Nat.le_of_ble_eq_true rfl) dL_isOfficer_138 ?_
        obtain ⟨k_141, hf⟩ := gx_ck hf
        obtain ⟨r141, h_141, hf⟩ := gx_bs hf
        refine lc_rank (pc := 141) g (M := 420) ⟨(Nat.le_of_ble_eq_true rfl), (Nat.le_of_ble_eq_true rfl)⟩ hst k_141 h_141 (.refl _) (.refl _) ⟨(Nat.le_of_ble_eq_true rfl), (Nat.le_of_ble_eq_true rfl)⟩ (Nat.le_of_ble_eq_true rfl) dL_isOfficer_141 ?_
        refine j_aload_n (pc := 144) g 0 dL_isOfficer_144 rfl ?_
        refine j_iload_n (pc := 145) g 1 dL_isOfficer_145 rfl ?_
        obtain ⟨k_146, hf⟩ := gx_ck hf
        obtain ⟨r146, h_146, hf⟩ := gx_bs hf
        refine lc_rank (pc := 146) g (M := 420) ⟨(Nat.le_of_ble_eq_true rfl), (Nat.le_of_ble_eq_true rfl)⟩ hst k_146 h_146 (.refl _) (.refl _) ⟨(Nat.le_of_ble_eq_true rfl), (Nat.le_of_ble_eq_true rfl)⟩ (Nat.le_of_ble_eq_true rfl) dL_isOfficer_146 ?_
        refine j_icmp_le (tgt := 185) (pc := 149) g dL_isOfficer_149 (by decide) (fun c_149 => ?_) (fun c_149 => ?_)
        · have hf := gx_it c_149 hf
          refine j_sub (pc := 185) g [0, 1, 3, 4] rfl ?_
          exact tL_isOfficer_185 hst hxl g hE (r146.2, ((σ.2 + 1) + 1) + 1) v1 v3 v4 hf
        · have hf := gx_if c_149 hf
          refine j_aload_n (pc := 152) g 0 dL_isOfficer_152 rfl ?_
          refine j_iload_n (pc := 153) g 1 dL_isOfficer_153 rfl ?_
          obtain ⟨k_154, hf⟩ := gx_ck hf
          obtain ⟨r154, h_154, hf⟩ := gx_bs hf
          refine lc_depth (pc := 154) g (M := 420) ⟨(Nat.le_of_ble_eq_true rfl), (Nat.le_of_ble_eq_true rfl)⟩ hst k_154 h_154 (.refl _) (.refl _) ⟨(Nat.le_of_ble_eq_true rfl), (Nat.le_of_ble_eq_true rfl)⟩ (Nat.le_of_ble_eq_true rfl) dL_isOfficer_154 ?_
          refine j_aload_n (pc := 157) g 0 dL_isOfficer_157 rfl ?_
          refine j_aload_n (pc := 158) g 0 dL_isOfficer_158 rfl ?_
          refine j_iload_n (pc := 159) g 1 dL_isOfficer_159 rfl ?_
          obtain ⟨k_160, hf⟩ := gx_ck hf
          obtain ⟨r160, h_160, hf⟩ := gx_bs hf
          refine lc_superior (pc := 160) g (M := 420) ⟨(Nat.le_of_ble_eq_true rfl), (Nat.le_of_ble_eq_true rfl)⟩ hst k_160 h_160 (.refl _) (.refl _) ⟨(Nat.le_of_ble_eq_true rfl), (Nat.le_of_ble_eq_true rfl)⟩ (Nat.le_of_ble_eq_true rfl) dL_isOfficer_160 ?_
          obtain ⟨k_163, hf⟩ := gx_ck hf
          obtain ⟨r163, h_163, hf⟩ := gx_bs hf
          refine lc_depth (pc := 163) g (M := 420) ⟨(Nat.le_of_ble_eq_true rfl), (Nat.le_of_ble_eq_true rfl)⟩ hst k_163 h_163 (.refl _) (.refl _) ⟨(Nat.le_of_ble_eq_true rfl), (Nat.le_of_ble_eq_true rfl)⟩ (Nat.le_of_ble_eq_true rfl) dL_isOfficer_163 ?_
          refine j_iconst (v := 1) (pc := 166) g dL_isOfficer_166 (by decide) ?_
          refine j_iadd (pc := 167) g dL_isOfficer_167 ?_
          refine j_icmp_ne (tgt := 185) (pc := 168) g dL_isOfficer_168 (by decide) (fun c_168 => ?_) (fun c_168 => ?_)
          · have hf := gx_if c_168 hf
            refine j_sub (pc := 185) g [0, 1, 3, 4] rfl ?_
            exact tL_isOfficer_185 hst hxl g hE (r163.2, (((((σ.2 + 1) + 1) + 1) + 1) + 1) + 1) v1 v3 v4 hf
          · have hf := gx_it c_168 hf
            refine j_aload_n (pc := 171) g 0 dL_isOfficer_171 rfl ?_
            refine j_iconst (v := 0) (pc := 172) g dL_isOfficer_172 (by decide) ?_
            refine j_iload_n (pc := 173) g 1 dL_isOfficer_173 rfl ?_
            obtain ⟨k_174, hf⟩ := gx_ck hf
            obtain ⟨r174, h_174, hf⟩ := gx_bs hf
            refine lc_isAbove (pc := 174) g (M := 420) ⟨(Nat.le_of_ble_eq_true rfl), (Nat.le_of_ble_eq_true rfl)⟩ hst k_174 h_174 (.refl _) (.refl _) ⟨(Nat.le_of_ble_eq_true rfl), (Nat.le_of_ble_eq_true rfl)⟩ (Nat.le_of_ble_eq_true rfl) dL_isOfficer_174 ?_
            refine j_iconst (v := 1) (pc := 177) g dL_isOfficer_177 (by decide) ?_
            refine j_icmp_ne (tgt := 185) (pc := 178) g dL_isOfficer_178 (by decide) (fun c_178 => ?_) (fun c_178 => ?_)
            · have hf := gx_if c_178 hf
              refine j_sub (pc := 185) g [0, 1, 3, 4] rfl ?_
              exact tL_isOfficer_185 hst hxl g hE (r174.2, ((((((σ.2 + 1) + 1) + 1) + 1) + 1) + 1) + 1) v1 v3 v4 hf
            · have hf := gx_it c_178 hf
              refine j_iconst (v := 1) (pc := 181) g dL_isOfficer_181 (by decide) ?_
              refine j_goto (tgt := 186) (pc := 182) g dL_isOfficer_182 (by decide) ?_
              refine j_istore (L' := [(5, .int (1 : Int32)), (0, .ref (ad 0)), (1, .int v1), (2, .int v2), (3, .int v3), (4, .int v4)]) (pc := 186) g dL_isOfficer_186 (Nat.le_of_ble_eq_true rfl) rfl ?_
              refine j_sub (pc := 188) g [1, 2, 4, 5, 0] rfl ?_
              exact tL_isOfficer_188 hst hxl g hE (r174.2, ((((((σ.2 + 1) + 1) + 1) + 1) + 1) + 1) + 1) v1 v3 v4 (1 : Int32) hf
      · have hf := gx_it c_96 hf
        refine j_aload_n (pc := 99) g 0 dL_isOfficer_99 rfl ?_
        refine j_iload_n (pc := 100) g 1 dL_isOfficer_100 rfl ?_
        obtain ⟨k_101, hf⟩ := gx_ck hf
        obtain ⟨r101, h_101, hf⟩ := gx_bs hf
        refine lc_depth (pc := 101) g (M := 420) ⟨(Nat.le_of_ble_eq_true rfl), (Nat.le_of_ble_eq_true rfl)⟩ hst k_101 h_101 (.refl _) (.refl _) ⟨(Nat.le_of_ble_eq_true rfl), (Nat.le_of_ble_eq_true rfl)⟩ (Nat.le_of_ble_eq_true rfl) dL_isOfficer_101 ?_
        refine j_if_ne (tgt := 131) (pc := 104) g dL_isOfficer_104 (by decide) (fun c_104 => ?_) (fun c_104 => ?_)
        · have hf := gx_if c_104 hf
          refine j_sub (pc := 131) g [0, 1, 3, 4] rfl ?_
          exact tL_isOfficer_131 hst hxl g hE (r101.2, σ.2 + 1) v1 v3 v4 hf
        · have hf := gx_it c_104 hf
          refine j_aload_n (pc := 107) g 0 dL_isOfficer_107 rfl ?_
          refine j_iload_n (pc := 108) g 1 dL_isOfficer_108 rfl ?_
          obtain ⟨k_109, hf⟩ := gx_ck hf
          obtain ⟨r109, h_109, hf⟩ := gx_bs hf
          refine lc_superior (pc := 109) g (M := 420) ⟨(Nat.le_of_ble_eq_true rfl), (Nat.le_of_ble_eq_true rfl)⟩ hst k_109 h_109 (.refl _) (.refl _) ⟨(Nat.le_of_ble_eq_true rfl), (Nat.le_of_ble_eq_true rfl)⟩ (Nat.le_of_ble_eq_true rfl) dL_isOfficer_109 ?_
          refine j_bipush (v := -75) (pc := 112) g dL_isOfficer_112 (by decide) ?_
          refine j_icmp_ne (tgt := 131) (pc := 114) g dL_isOfficer_114 (by decide) (fun c_114 => ?_) (fun c_114 => ?_)
          · have hf := gx_if c_114 hf
            refine j_sub (pc := 131) g [0, 1, 3, 4] rfl ?_
            exact tL_isOfficer_131 hst hxl g hE (r109.2, (σ.2 + 1) + 1) v1 v3 v4 hf
          · have hf := gx_it c_114 hf
            refine j_aload_n (pc := 117) g 0 dL_isOfficer_117 rfl ?_
            refine j_iload_n (pc := 118) g 1 dL_isOfficer_118 rfl ?_
            obtain ⟨k_119, hf⟩ := gx_ck hf
            obtain ⟨r119, h_119, hf⟩ := gx_bs hf
            refine lc_rank (pc := 119) g (M := 420) ⟨(Nat.le_of_ble_eq_true rfl), (Nat.le_of_ble_eq_true rfl)⟩ hst k_119 h_119 (.refl _) (.refl _) ⟨(Nat.le_of_ble_eq_true rfl), (Nat.le_of_ble_eq_true rfl)⟩ (Nat.le_of_ble_eq_true rfl) dL_isOfficer_119 ?_
            refine j_bipush (v := 9) (pc := 122) g dL_isOfficer_122 (by decide) ?_
            refine j_icmp_ne (tgt := 131) (pc := 124) g dL_isOfficer_124 (by decide) (fun c_124 => ?_) (fun c_124 => ?_)
            · have hf := gx_if c_124 hf
              refine j_sub (pc := 131) g [0, 1, 3, 4] rfl ?_
              exact tL_isOfficer_131 hst hxl g hE (r119.2, ((σ.2 + 1) + 1) + 1) v1 v3 v4 hf
            · have hf := gx_it c_124 hf
              refine j_iconst (v := 1) (pc := 127) g dL_isOfficer_127 (by decide) ?_
              refine j_goto (tgt := 186) (pc := 128) g dL_isOfficer_128 (by decide) ?_
              refine j_istore (L' := [(5, .int (1 : Int32)), (0, .ref (ad 0)), (1, .int v1), (2, .int v2), (3, .int v3), (4, .int v4)]) (pc := 186) g dL_isOfficer_186 (Nat.le_of_ble_eq_true rfl) rfl ?_
              refine j_sub (pc := 188) g [1, 2, 4, 5, 0] rfl ?_
              exact tL_isOfficer_188 hst hxl g hE (r119.2, ((σ.2 + 1) + 1) + 1) v1 v3 v4 (1 : Int32) hf
    · have hf := gx_if c_14 hf
      refine j_aload_n (pc := 17) g 0 dL_isOfficer_17 rfl ?_
      refine j_iload (pc := 18) g 5 dL_isOfficer_18 rfl ?_
      obtain ⟨k_20, hf⟩ := gx_ck hf
      obtain ⟨r20, h_20, hf⟩ := gx_bs hf
      refine lv_isInNavy (pc := 20) g (M := 420) ⟨(Nat.le_of_ble_eq_true rfl), (Nat.le_of_ble_eq_true rfl)⟩ k_20 h_20 (q0 := 0) rfl rfl (.refl _) (.refl _) ⟨(Nat.le_of_ble_eq_true rfl), (Nat.le_of_ble_eq_true rfl)⟩ (Nat.le_of_ble_eq_true rfl) dL_isOfficer_20 ?_
      refine j_if_eq (tgt := 89) (pc := 23) g dL_isOfficer_23 (by decide) (fun c_23 => ?_) (fun c_23 => ?_)
      · have hf := gx_it c_23 hf
        refine j_iinc (v := v5 + 1) (L' := [(5, .int (v5 + 1)), (0, .ref (ad 0)), (1, .int v1), (2, .int v2), (3, .int v3), (4, .int v4)]) (pc := 89) g 5 dL_isOfficer_89 rfl rfl (Nat.le_of_ble_eq_true rfl) rfl ?_
        refine j_goto (tgt := 8) (pc := 92) g dL_isOfficer_92 (by decide) ?_
        refine j_sub (pc := 8) g [1, 2, 3, 4, 5, 0] rfl ?_
        exact ih σ v1 v2 v3 v4 (v5 + 1) hf
      · have hf := gx_if c_23 hf
        refine j_aload_n (pc := 26) g 0 dL_isOfficer_26 rfl ?_
        refine j_iload (pc := 27) g 5 dL_isOfficer_27 rfl ?_
        obtain ⟨k_29, hf⟩ := gx_ck hf
        obtain ⟨r29, h_29, hf⟩ := gx_bs hf
        refine lc_superior (pc := 29) g (M := 420) ⟨(Nat.le_of_ble_eq_true rfl), (Nat.le_of_ble_eq_true rfl)⟩ hst k_29 h_29 (.refl _) (.refl _) ⟨(Nat.le_of_ble_eq_true rfl), (Nat.le_of_ble_eq_true rfl)⟩ (Nat.le_of_ble_eq_true rfl) dL_isOfficer_29 ?_
        refine j_iload_n (pc := 32) g 1 dL_isOfficer_32 rfl ?_
        refine j_icmp_ne (tgt := 40) (pc := 33) g dL_isOfficer_33 (by decide) (fun c_33 => ?_) (fun c_33 => ?_)
        · have hf := gx_if c_33 hf
          refine j_iconst (v := 0) (pc := 40) g dL_isOfficer_40 (by decide) ?_
          refine j_istore (L' := [(6, .int (0 : Int32)), (0, .ref (ad 0)), (1, .int v1), (2, .int v2), (3, .int v3), (4, .int v4), (5, .int v5)]) (pc := 41) g dL_isOfficer_41 (Nat.le_of_ble_eq_true rfl) rfl ?_
          refine j_sub (pc := 43) g [1, 2, 3, 4, 5, 6, 0] rfl ?_
          exact tL_isOfficer_43 hst hxl g hE ih (r29.2, σ.2 + 1) v1 v2 v3 v4 v5 (0 : Int32) hf
        · have hf := gx_it c_33 hf
          refine j_iconst (v := 1) (pc := 36) g dL_isOfficer_36 (by decide) ?_
          refine j_goto (tgt := 41) (pc := 37) g dL_isOfficer_37 (by decide) ?_
          refine j_istore (L' := [(6, .int (1 : Int32)), (0, .ref (ad 0)), (1, .int v1), (2, .int v2), (3, .int v3), (4, .int v4), (5, .int v5)]) (pc := 41) g dL_isOfficer_41 (Nat.le_of_ble_eq_true rfl) rfl ?_
          refine j_sub (pc := 43) g [1, 2, 3, 4, 5, 6, 0] rfl ?_
          exact tL_isOfficer_43 hst hxl g hE ih (r29.2, σ.2 + 1) v1 v2 v3 v4 v5 (1 : Int32) hf
set_option maxRecDepth 100000 in
set_option maxHeartbeats 8000000 in
theorem cL_isOfficer_ {D : va_G} {t : Nat → ClassId} {aa : gx_AA} {l : Launch} {ad : Nat → Nat} {rs : va_W} {σ : CS} {p1 : Int32} {p2 : Int32} {q : (Int32 × LwS)} (hst : l.stackTraces = false) (hxl : xL aa < 2 ^ 31) (hf : fL_isOfficer aa σ p1 p2 = some q) : gx_CM D t (gx_E0 aa) l yL_isOfficer cL_isOfficer 8 (some .boolean) 21 510 420 (6 * 420) [.ref (ad 0), .int p1, .int p2] (kW aa ad t σ rs) (kW aa ad t q.2.1 rs) (some (.int q.1)) := by
  refine gx_intro_mi (by decide) (Nat.le_of_ble_eq_true rfl) (fun J g0 hE0 => ?_)
  have g : gx_G D t (gx_E0 aa) l ({ frames := 21, cells := 420, slots := 2520, locals := 510 }) cL_isOfficer RL 8 J := g0
  have hE : ∀ (v : Int32) (σ : LwS) (pc : Nat) (L : List (Nat × Value)), some (v, σ) = some q → σ.2 ≤ 420 → decode cL_isOfficer pc = .ok (.ireturn, 1) → narrow .boolean (.int v) = .int v → J σ.2 (6 * σ.2) (kW aa ad t σ.1 rs) pc L [.int v] := fun v σ pc L h h0 h1 h2 => by cases h; exact j_wid g h0 (Nat.mul_le_mul_left 6 h0) (hE0 pc L h1 h2)
  unfold fL_isOfficer at hf
  show J 0 (6 * 0) (kW aa ad t σ rs) 0 [(0, .ref (ad 0)), (1, .int p1), (2, .int p2)] []
  refine j_iconst (v := 1) (pc := 0) g dL_isOfficer_0 (by decide) ?_
  refine j_istore_n (L' := [(3, .int (1 : Int32)), (0, .ref (ad 0)), (1, .int p1), (2, .int p2)]) (pc := 1) g dL_isOfficer_1 rfl (Nat.le_of_ble_eq_true rfl) rfl ?_
  refine j_iconst (v := 0) (pc := 2) g dL_isOfficer_2 (by decide) ?_
  refine j_istore (L' := [(4, .int (0 : Int32)), (3, .int (1 : Int32)), (0, .ref (ad 0)), (1, .int p1), (2, .int p2)]) (pc := 3) g dL_isOfficer_3 (Nat.le_of_ble_eq_true rfl) rfl ?_
  refine j_iconst (v := 0) (pc := 5) g dL_isOfficer_5 (by decide) ?_
  refine j_istore (L' := [(5, .int (0 : Int32)), (4, .int (0 : Int32)), (3, .int (1 : Int32)), (0, .ref (ad 0)), (1, .int p1), (2, .int p2)]) (pc := 6) g dL_isOfficer_6 (Nat.le_of_ble_eq_true rfl) rfl ?_
  refine j_sub (pc := 8) g [3, 4, 5, 2, 1, 0] rfl ?_
  exact tL_isOfficer_8 hst hxl g hE 2000 (σ, 0) p1 p2 (1 : Int32) (0 : Int32) (0 : Int32) hf
