theorem lv_hour {D : va_G} {t : Nat → ClassId} {aa : gx_AA} {l : Launch} {R : Room} {cc : ByteArray} {nL : Nat} {J : gx_J} {ad : Nat → Nat} {rs w w' : va_W} {κ pc : Nat} {L : List (Nat × Value)} {rest : List Value} (g : gx_G D t (gx_E0 aa) l R cc RL nL J) {M : Nat} (hM : M ≤ R.cells ∧ 6 * M ≤ R.slots) (hk : κ ≤ M) {σ : CS} {q : Int32} (hf : fX8_hour σ = some q) {ci q0 : Nat} {fs : List Value} (hci : ci = 9) (he : w[q0]? = some (ad 0, .inr (9, fs))) (hp : w.Perm (kW aa ad t σ rs)) (hp' : (kW aa ad t σ rs).Perm w') (hR : 0 + 1 ≤ R.frames ∧ 8 + (1 + 11) + 0 ≤ R.locals) (hcat : (rest.map fun v => v.category).sum ≤ 8) (hd : decode cc pc = .ok (.invokevirtual 296, 3)) (kk : J κ (6 * κ) w' (pc + 3) L (.int q :: rest)) : J κ (6 * κ) w pc L (.ref (ad 0) :: rest) := j_callVi (na := 0) (As := []) (ci := 9) g (cX8_hour_ (rs := rs) hf) q_i_X8_hour q_s_X8_hour rfl rfl he q_c_X8_hour q_l_L_296 q_n_X8 (by decide +kernel) rfl hR (lk_le hM hk) hcat hp hp' hd kk rfl
theorem lv_executedOrders {D : va_G} {t : Nat → ClassId} {aa : gx_AA} {l : Launch} {R : Room} {cc : ByteArray} {nL : Nat} {J : gx_J} {ad : Nat → Nat} {rs w w' : va_W} {κ pc : Nat} {L : List (Nat × Value)} {rest : List Value} (g : gx_G D t (gx_E0 aa) l R cc RL nL J) {M : Nat} (hM : M ≤ R.cells ∧ 6 * M ≤ R.slots) (hk : κ ≤ M) {σ : CS} {q : Int32} (hf : fX8_executedOrders σ = some q) {ci q0 : Nat} {fs : List Value} (hci : ci = 9) (he : w[q0]? = some (ad 0, .inr (9, fs))) (hp : w.Perm (kW aa ad t σ rs)) (hp' : (kW aa ad t σ rs).Perm w') (hR : 0 + 1 ≤ R.frames ∧ 8 + (1 + 11) + 0 ≤ R.locals) (hcat : (rest.map fun v => v.category).sum ≤ 8) (hd : decode cc pc = .ok (.invokevirtual 188, 3)) (kk : J κ (6 * κ) w' (pc + 3) L (.int q :: rest)) : J κ (6 * κ) w pc L (.ref (ad 0) :: rest) := j_callVi (na := 0) (As := []) (ci := 9) g (cX8_executedOrders_ (rs := rs) hf) q_i_X8_executedOrders q_s_X8_executedOrders rfl rfl he q_c_X8_executedOrders q_l_L_188 q_n_X8 (by decide +kernel) rfl hR (lk_le hM hk) hcat hp hp' hd kk rfl
theorem lv_refusedOrders {D : va_G} {t : Nat → ClassId} {aa : gx_AA} {l : Launch} {R : Room} {cc : ByteArray} {nL : Nat} {J : gx_J} {ad : Nat → Nat} {rs w w' : va_W} {κ pc : Nat} {L : List (Nat × Value)} {rest : List Value} (g : gx_G D t (gx_E0 aa) l R cc RL nL J) {M : Nat} (hM : M ≤ R.cells ∧ 6 * M ≤ R.slots) (hk : κ ≤ M) {σ : CS} {q : Int32} (hf : fX8_refusedOrders σ = some q) {ci q0 : Nat} {fs : List Value} (hci : ci = 9) (he : w[q0]? = some (ad 0, .inr (9, fs))) (hp : w.Perm (kW aa ad t σ rs)) (hp' : (kW aa ad t σ rs).Perm w') (hR : 0 + 1 ≤ R.frames ∧ 8 + (1 + 11) + 0 ≤ R.locals) (hcat : (rest.map fun v => v.category).sum ≤ 8) (hd : decode cc pc = .ok (.invokevirtual 191, 3)) (kk : J κ (6 * κ) w' (pc + 3) L (.int q :: rest)) : J κ (6 * κ) w pc L (.ref (ad 0) :: rest) := j_callVi (na := 0) (As := []) (ci := 9) g (cX8_refusedOrders_ (rs := rs) hf) q_i_X8_refusedOrders q_s_X8_refusedOrders rfl rfl he q_c_X8_refusedOrders q_l_L_191 q_n_X8 (by decide +kernel) rfl hR (lk_le hM hk) hcat hp hp' hd kk rfl
theorem lv_lostOrders {D : va_G} {t : Nat → ClassId} {aa : gx_AA} {l : Launch} {R : Room} {cc : ByteArray} {nL : Nat} {J : gx_J} {ad : Nat → Nat} {rs w w' : va_W} {κ pc : Nat} {L : List (Nat × Value)} {rest : List Value} (g : gx_G D t (gx_E0 aa) l R cc RL nL J) {M : Nat} (hM : M ≤ R.cells ∧ 6 * M ≤ R.slots) (hk : κ ≤ M) {σ : CS} {q : Int32} (hf : fX8_lostOrders σ = some q) {ci q0 : Nat} {fs : List Value} (hci : ci = 9) (he : w[q0]? = some (ad 0, .inr (9, fs))) (hp : w.Perm (kW aa ad t σ rs)) (hp' : (kW aa ad t σ rs).Perm w') (hR : 0 + 1 ≤ R.frames ∧ 8 + (1 + 11) + 0 ≤ R.locals) (hcat : (rest.map fun v => v.category).sum ≤ 8) (hd : decode cc pc = .ok (.invokevirtual 194, 3)) (kk : J κ (6 * κ) w' (pc + 3) L (.int q :: rest)) : J κ (6 * κ) w pc L (.ref (ad 0) :: rest) := j_callVi (na := 0) (As := []) (ci := 9) g (cX8_lostOrders_ (rs := rs) hf) q_i_X8_lostOrders q_s_X8_lostOrders rfl rfl he q_c_X8_lostOrders q_l_L_194 q_n_X8 (by decide +kernel) rfl hR (lk_le hM hk) hcat hp hp' hd kk rfl
theorem lv_appointedCount {D : va_G} {t : Nat → ClassId} {aa : gx_AA} {l : Launch} {R : Room} {cc : ByteArray} {nL : Nat} {J : gx_J} {ad : Nat → Nat} {rs w w' : va_W} {κ pc : Nat} {L : List (Nat × Value)} {rest : List Value} (g : gx_G D t (gx_E0 aa) l R cc RL nL J) {M : Nat} (hM : M ≤ R.cells ∧ 6 * M ≤ R.slots) (hk : κ ≤ M) {σ : CS} {q : Int32} (hf : fX8_appointedCount σ = some q) {ci q0 : Nat} {fs : List Value} (hci : ci = 9) (he : w[q0]? = some (ad 0, .inr (9, fs))) (hp : w.Perm (kW aa ad t σ rs)) (hp' : (kW aa ad t σ rs).Perm w') (hR : 0 + 1 ≤ R.frames ∧ 8 + (1 + 11) + 0 ≤ R.locals) (hcat : (rest.map fun v => v.category).sum ≤ 8) (hd : decode cc pc = .ok (.invokevirtual 182, 3)) (kk : J κ (6 * κ) w' (pc + 3) L (.int q :: rest)) : J κ (6 * κ) w pc L (.ref (ad 0) :: rest) := j_callVi (na := 0) (As := []) (ci := 9) g (cX8_appointedCount_ (rs := rs) hf) q_i_X8_appointedCount q_s_X8_appointedCount rfl rfl he q_c_X8_appointedCount q_l_L_182 q_n_X8 (by decide +kernel) rfl hR (lk_le hM hk) hcat hp hp' hd kk rfl
theorem lv_orderCount {D : va_G} {t : Nat → ClassId} {aa : gx_AA} {l : Launch} {R : Room} {cc : ByteArray} {nL : Nat} {J : gx_J} {ad : Nat → Nat} {rs w w' : va_W} {κ pc : Nat} {L : List (Nat × Value)} {rest : List Value} (g : gx_G D t (gx_E0 aa) l R cc RL nL J) {M : Nat} (hM : M ≤ R.cells ∧ 6 * M ≤ R.slots) (hk : κ ≤ M) {σ : CS} {q : Int32} (hf : fX8_orderCount σ = some q) {ci q0 : Nat} {fs : List Value} (hci : ci = 9) (he : w[q0]? = some (ad 0, .inr (9, fs))) (hp : w.Perm (kW aa ad t σ rs)) (hp' : (kW aa ad t σ rs).Perm w') (hR : 0 + 1 ≤ R.frames ∧ 8 + (1 + 11) + 0 ≤ R.locals) (hcat : (rest.map fun v => v.category).sum ≤ 8) (hd : decode cc pc = .ok (.invokevirtual 185, 3)) (kk : J κ (6 * κ) w' (pc + 3) L (.int q :: rest)) : J κ (6 * κ) w pc L (.ref (ad 0) :: rest) := j_callVi (na := 0) (As := []) (ci := 9) g (cX8_orderCount_ (rs := rs) hf) q_i_X8_orderCount q_s_X8_orderCount rfl rfl he q_c_X8_orderCount q_l_L_185 q_n_X8 (by decide +kernel) rfl hR (lk_le hM hk) hcat hp hp' hd kk rfl
theorem lc_meaning {D : va_G} {t : Nat → ClassId} {aa : gx_AA} {l : Launch} {R : Room} {cc : ByteArray} {nL : Nat} {J : gx_J} {ad : Nat → Nat} {rs w w' : va_W} {κ pc : Nat} {L : List (Nat × Value)} {rest : List Value} (g : gx_G D t (gx_E0 aa) l R cc RL nL J) {M : Nat} (hM : M ≤ R.cells ∧ 6 * M ≤ R.slots) (hst : l.stackTraces = false) (hk : κ + 1 ≤ M) {σ : CS} {p1 : Int32} {p2 : Int32} {q : (Int32 × CS)} (hf : fL_meaning σ p1 p2 = some q) (hp : w.Perm (kW aa ad t σ rs)) (hp' : (kW aa ad t q.2 rs).Perm w') (hR : 8 + 1 ≤ R.frames ∧ 8 + (4 + 11) + 133 ≤ R.locals) (hcat : (rest.map fun v => v.category).sum ≤ 8) (hd : decode cc pc = .ok (.invokestatic 309, 3)) (kk : J (κ + 1) (6 * (κ + 1)) w' (pc + 3) L (.int q.1 :: rest)) : J κ (6 * κ) w pc L (.int p2 :: .int p1 :: .ref (ad 0) :: rest) := j_callH (na := 3) (As := [.ref (ad 0), .int p1, .int p2]) g (hL_meaning_ (rs := rs) hst hf) q_t_L_meaning q_w_L_meaning q_l_L_309 q_n_L (by decide) (by decide +kernel) rfl hR (lk_add hM hk) hcat hp hp' hd kk rfl
theorem lc_flagsWith {D : va_G} {t : Nat → ClassId} {aa : gx_AA} {l : Launch} {R : Room} {cc : ByteArray} {nL : Nat} {J : gx_J} {ad : Nat → Nat} {rs w w' : va_W} {κ pc : Nat} {L : List (Nat × Value)} {rest : List Value} (g : gx_G D t (gx_E0 aa) l R cc RL nL J) {M : Nat} (hM : M ≤ R.cells ∧ 6 * M ≤ R.slots) (hst : l.stackTraces = false) (hk : κ + 1 ≤ M) {σ : CS} {p1 : Int32} {q : (Int32 × CS)} (hf : fL_flagsWith σ p1 = some q) (hp : w.Perm (kW aa ad t σ rs)) (hp' : (kW aa ad t q.2 rs).Perm w') (hR : 7 + 1 ≤ R.frames ∧ 8 + (3 + 11) + 111 ≤ R.locals) (hcat : (rest.map fun v => v.category).sum ≤ 8) (hd : decode cc pc = .ok (.invokestatic 307, 3)) (kk : J (κ + 1) (6 * (κ + 1)) w' (pc + 3) L (.int q.1 :: rest)) : J κ (6 * κ) w pc L (.int p1 :: .ref (ad 0) :: rest) := j_callH (na := 2) (As := [.ref (ad 0), .int p1]) g (hL_flagsWith_ (rs := rs) hst hf) q_t_L_flagsWith q_w_L_flagsWith q_l_L_307 q_n_L (by decide) (by decide +kernel) rfl hR (lk_add hM hk) hcat hp hp' hd kk rfl
theorem lc_holder {D : va_G} {t : Nat → ClassId} {aa : gx_AA} {l : Launch} {R : Room} {cc : ByteArray} {nL : Nat} {J : gx_J} {ad : Nat → Nat} {rs w w' : va_W} {κ pc : Nat} {L : List (Nat × Value)} {rest : List Value} (g : gx_G D t (gx_E0 aa) l R cc RL nL J) {M : Nat} (hM : M ≤ R.cells ∧ 6 * M ≤ R.slots) (hst : l.stackTraces = false) (hk : κ + 1 ≤ M) {σ : CS} {p1 : Int32} {q : (Int32 × CS)} (hf : fL_holder σ p1 = some q) (hp : w.Perm (kW aa ad t σ rs)) (hp' : (kW aa ad t q.2 rs).Perm w') (hR : 8 + 1 ≤ R.frames ∧ 8 + (3 + 11) + 132 ≤ R.locals) (hcat : (rest.map fun v => v.category).sum ≤ 8) (hd : decode cc pc = .ok (.invokestatic 204, 3)) (kk : J (κ + 1) (6 * (κ + 1)) w' (pc + 3) L (.int q.1 :: rest)) : J κ (6 * κ) w pc L (.int p1 :: .ref (ad 0) :: rest) := j_callH (na := 2) (As := [.ref (ad 0), .int p1]) g (hL_holder_ (rs := rs) hst hf) q_t_L_holder q_w_L_holder q_l_L_204 q_n_L (by decide) (by decide +kernel) rfl hR (lk_add hM hk) hcat hp hp' hd kk rfl
theorem lc_target {D : va_G} {t : Nat → ClassId} {aa : gx_AA} {l : Launch} {R : Room} {cc : ByteArray} {nL : Nat} {J : gx_J} {ad : Nat → Nat} {rs w w' : va_W} {κ pc : Nat} {L : List (Nat × Value)} {rest : List Value} (g : gx_G D t (gx_E0 aa) l R cc RL nL J) {M : Nat} (hM : M ≤ R.cells ∧ 6 * M ≤ R.slots) (hst : l.stackTraces = false) (hk : κ + 1 ≤ M) {σ : CS} {p1 : Int32} {q : (Int32 × CS)} (hf : fL_target σ p1 = some q) (hp : w.Perm (kW aa ad t σ rs)) (hp' : (kW aa ad t q.2 rs).Perm w') (hR : 8 + 1 ≤ R.frames ∧ 8 + (3 + 11) + 132 ≤ R.locals) (hcat : (rest.map fun v => v.category).sum ≤ 8) (hd : decode cc pc = .ok (.invokestatic 206, 3)) (kk : J (κ + 1) (6 * (κ + 1)) w' (pc + 3) L (.int q.1 :: rest)) : J κ (6 * κ) w pc L (.int p1 :: .ref (ad 0) :: rest) := j_callH (na := 2) (As := [.ref (ad 0), .int p1]) g (hL_target_ (rs := rs) hst hf) q_t_L_target q_w_L_target q_l_L_206 q_n_L (by decide) (by decide +kernel) rfl hR (lk_add hM hk) hcat hp hp' hd kk rfl
theorem lc_severity {D : va_G} {t : Nat → ClassId} {aa : gx_AA} {l : Launch} {R : Room} {cc : ByteArray} {nL : Nat} {J : gx_J} {ad : Nat → Nat} {rs w w' : va_W} {κ pc : Nat} {L : List (Nat × Value)} {rest : List Value} (g : gx_G D t (gx_E0 aa) l R cc RL nL J) {M : Nat} (hM : M ≤ R.cells ∧ 6 * M ≤ R.slots) (hst : l.stackTraces = false) (hk : κ + 1 ≤ M) {σ : CS} {p1 : Int32} {q : (Int32 × CS)} (hf : fL_severity σ p1 = some q) (hp : w.Perm (kW aa ad t σ rs)) (hp' : (kW aa ad t q.2 rs).Perm w') (hR : 8 + 1 ≤ R.frames ∧ 8 + (3 + 11) + 132 ≤ R.locals) (hcat : (rest.map fun v => v.category).sum ≤ 8) (hd : decode cc pc = .ok (.invokestatic 213, 3)) (kk : J (κ + 1) (6 * (κ + 1)) w' (pc + 3) L (.int q.1 :: rest)) : J κ (6 * κ) w pc L (.int p1 :: .ref (ad 0) :: rest) := j_callH (na := 2) (As := [.ref (ad 0), .int p1]) g (hL_severity_ (rs := rs) hst hf) q_t_L_severity q_w_L_severity q_l_L_213 q_n_L (by decide) (by decide +kernel) rfl hR (lk_add hM hk) hcat hp hp' hd kk rfl
theorem lc_rank {D : va_G} {t : Nat → ClassId} {aa : gx_AA} {l : Launch} {R : Room} {cc : ByteArray} {nL : Nat} {J : gx_J} {ad : Nat → Nat} {rs w w' : va_W} {κ pc : Nat} {L : List (Nat × Value)} {rest : List Value} (g : gx_G D t (gx_E0 aa) l R cc RL nL J) {M : Nat} (hM : M ≤ R.cells ∧ 6 * M ≤ R.slots) (hst : l.stackTraces = false) (hk : κ + 1 ≤ M) {σ : CS} {p1 : Int32} {q : (Int32 × CS)} (hf : fL_rank σ p1 = some q) (hp : w.Perm (kW aa ad t σ rs)) (hp' : (kW aa ad t q.2 rs).Perm w') (hR : 8 + 1 ≤ R.frames ∧ 8 + (3 + 11) + 132 ≤ R.locals) (hcat : (rest.map fun v => v.category).sum ≤ 8) (hd : decode cc pc = .ok (.invokestatic 221, 3)) (kk : J (κ + 1) (6 * (κ + 1)) w' (pc + 3) L (.int q.1 :: rest)) : J κ (6 * κ) w pc L (.int p1 :: .ref (ad 0) :: rest) := j_callH (na := 2) (As := [.ref (ad 0), .int p1]) g (hL_rank_ (rs := rs) hst hf) q_t_L_rank q_w_L_rank q_l_L_221 q_n_L (by decide) (by decide +kernel) rfl hR (lk_add hM hk) hcat hp hp' hd kk rfl
theorem lc_loyalty {D : va_G} {t : Nat → ClassId} {aa : gx_AA} {l : Launch} {R : Room} {cc : ByteArray} {nL : Nat} {J : gx_J} {ad : Nat → Nat} {rs w w' : va_W} {κ pc : Nat} {L : List (Nat × Value)} {rest : List Value} (g : gx_G D t (gx_E0 aa) l R cc RL nL J) {M : Nat} (hM : M ≤ R.cells ∧ 6 * M ≤ R.slots) (hst : l.stackTraces = false) (hk : κ + 1 ≤ M) {σ : CS} {p1 : Int32} {q : (Int32 × CS)} (hf : fL_loyalty σ p1 = some q) (hp : w.Perm (kW aa ad t σ rs)) (hp' : (kW aa ad t q.2 rs).Perm w') (hR : 8 + 1 ≤ R.frames ∧ 8 + (3 + 11) + 132 ≤ R.locals) (hcat : (rest.map fun v => v.category).sum ≤ 8) (hd : decode cc pc = .ok (.invokestatic 303, 3)) (kk : J (κ + 1) (6 * (κ + 1)) w' (pc + 3) L (.int q.1 :: rest)) : J κ (6 * κ) w pc L (.int p1 :: .ref (ad 0) :: rest) := j_callH (na := 2) (As := [.ref (ad 0), .int p1]) g (hL_loyalty_ (rs := rs) hst hf) q_t_L_loyalty q_w_L_loyalty q_l_L_303 q_n_L (by decide) (by decide +kernel) rfl hR (lk_add hM hk) hcat hp hp' hd kk rfl
theorem lc_refusals {D : va_G} {t : Nat → ClassId} {aa : gx_AA} {l : Launch} {R : Room} {cc : ByteArray} {nL : Nat} {J : gx_J} {ad : Nat → Nat} {rs w w' : va_W} {κ pc : Nat} {L : List (Nat × Value)} {rest : List Value} (g : gx_G D t (gx_E0 aa) l R cc RL nL J) {M : Nat} (hM : M ≤ R.cells ∧ 6 * M ≤ R.slots) (hst : l.stackTraces = false) (hk : κ + 1 ≤ M) {σ : CS} {p1 : Int32} {q : (Int32 × CS)} (hf : fL_refusals σ p1 = some q) (hp : w.Perm (kW aa ad t σ rs)) (hp' : (kW aa ad t q.2 rs).Perm w') (hR : 8 + 1 ≤ R.frames ∧ 8 + (3 + 11) + 132 ≤ R.locals) (hcat : (rest.map fun v => v.category).sum ≤ 8) (hd : decode cc pc = .ok (.invokestatic 305, 3)) (kk : J (κ + 1) (6 * (κ + 1)) w' (pc + 3) L (.int q.1 :: rest)) : J κ (6 * κ) w pc L (.int p1 :: .ref (ad 0) :: rest) := j_callH (na := 2) (As := [.ref (ad 0), .int p1]) g (hL_refusals_ (rs := rs) hst hf) q_t_L_refusals q_w_L_refusals q_l_L_305 q_n_L (by decide) (by decide +kernel) rfl hR (lk_add hM hk) hcat hp hp' hd kk rfl
theorem lc_superior {D : va_G} {t : Nat → ClassId} {aa : gx_AA} {l : Launch} {R : Room} {cc : ByteArray} {nL : Nat} {J : gx_J} {ad : Nat → Nat} {rs w w' : va_W} {κ pc : Nat} {L : List (Nat × Value)} {rest : List Value} (g : gx_G D t (gx_E0 aa) l R cc RL nL J) {M : Nat} (hM : M ≤ R.cells ∧ 6 * M ≤ R.slots) (hst : l.stackTraces = false) (hk : κ + 1 ≤ M) {σ : CS} {p1 : Int32} {q : (Int32 × CS)} (hf : fL_superior σ p1 = some q) (hp : w.Perm (kW aa ad t σ rs)) (hp' : (kW aa ad t q.2 rs).Perm w') (hR : 8 + 1 ≤ R.frames ∧ 8 + (3 + 11) + 132 ≤ R.locals) (hcat : (rest.map fun v => v.category).sum ≤ 8) (hd : decode cc pc = .ok (.invokestatic 219, 3)) (kk : J (κ + 1) (6 * (κ + 1)) w' (pc + 3) L (.int q.1 :: rest)) : J κ (6 * κ) w pc L (.int p1 :: .ref (ad 0) :: rest) := j_callH (na := 2) (As := [.ref (ad 0), .int p1]) g (hL_superior_ (rs := rs) hst hf) q_t_L_superior q_w_L_superior q_l_L_219 q_n_L (by decide) (by decide +kernel) rfl hR (lk_add hM hk) hcat hp hp' hd kk rfl
set_option maxRecDepth 100000 in
set_option maxHeartbeats 8000000 in
theorem tL_sum_178 {D : va_G} {t : Nat → ClassId} {aa : gx_AA} {l : Launch} {J : gx_J} {ad : Nat → Nat} {rs : va_W} {q : (Int64 × LwS)} (hst : l.stackTraces = false) (hxl : xL aa < 2 ^ 31) (g : gx_G D t (gx_E0 aa) l ({ frames := 9, cells := 200, slots := 1200, locals := 156 }) cL_sum RL 4 J) (hE : ∀ (v : Int64) (σ : LwS) (pc : Nat) (L : List (Nat × Value)), some (v, σ) = some q → σ.2 ≤ 200 → decode cL_sum pc = .ok (.lreturn, 1) → J σ.2 (6 * σ.2) (kW aa ad t σ.1 rs) pc L [.long v])  : ∀ (n : Nat) (σ : LwS) (v1 : Int64) (v3 : Int32), fL_sum_178 aa n σ v1 v3 = some q → J σ.2 (6 * σ.2) (kW aa ad t σ.1 rs) 178 [(0, .ref (ad 0)), (1, .long v1), (3, .int v3)] [] := by
  intro n
  induction n with
  | zero => intro σ v1 v3 hf; cases hf
  | succ n ih =>
    intro σ v1 v3 hf
    replace hf := (fL_sum_178_s aa n σ v1 v3).symm.trans hf
    refine j_iload_n (pc := 178) g 2 dL_sum_178 rfl ?_
    refine j_bipush (v := 25) (pc := 179) g dL_sum_179 (by decide) ?_
    refine j_icmp_ge (tgt := 216) (pc := 181) g dL_sum_181 (by decide) (fun c_181 => ?_) (fun c_181 => ?_)
    · have hf := gx_it c_181 hf
      refine j_lload_n (pc := 216) g 1 dL_sum_216 rfl ?_
      refine j_ldc2 (pc := 217) g q_kl301_L dL_sum_217 ?_
      refine j_aload_n (pc := 220) g 0 dL_sum_220 rfl ?_
      obtain ⟨k_221, hf⟩ := gx_ck hf
      obtain ⟨r221, h_221, hf⟩ := gx_bs hf
      refine lv_appointedCount (pc := 221) g (M := 200) ⟨(Nat.le_of_ble_eq_true rfl), (Nat.le_of_ble_eq_true rfl)⟩ k_221 h_221 (q0 := 0) rfl rfl (.refl _) (.refl _) ⟨(Nat.le_of_ble_eq_true rfl), (Nat.le_of_ble_eq_true rfl)⟩ (Nat.le_of_ble_eq_true rfl) dL_sum_221 ?_
      refine j_i2l (pc := 224) g dL_sum_224 ?_
      refine j_lmul (pc := 225) g dL_sum_225 ?_
      refine j_ladd (pc := 226) g dL_sum_226 ?_
      obtain ⟨h_k, hf⟩ := gx_ck hf
      exact hE _ _ _ _ hf h_k dL_sum_227
    · have hf := gx_if c_181 hf
      refine j_ldc2 (pc := 184) g q_kl301_L dL_sum_184 ?_
      refine j_lload_n (pc := 187) g 1 dL_sum_187 rfl ?_
      refine j_lmul (pc := 188) g dL_sum_188 ?_
      refine j_aload_n (pc := 189) g 0 dL_sum_189 rfl ?_
      refine j_bipush (v := 97) (pc := 190) g dL_sum_190 (by decide) ?_
      refine j_iload_n (pc := 192) g 2 dL_sum_192 rfl ?_
      refine j_iconst (v := 5) (pc := 193) g dL_sum_193 (by decide) ?_
      refine j_idiv (pc := 194) g dL_sum_194 (by decide) ?_
      refine j_iadd (pc := 195) g dL_sum_195 ?_
      refine j_i2c (pc := 196) g dL_sum_196 ?_
      refine j_bipush (v := 97) (pc := 197) g dL_sum_197 (by decide) ?_
      refine j_iload_n (pc := 199) g 2 dL_sum_199 rfl ?_
      refine j_iconst (v := 5) (pc := 200) g dL_sum_200 (by decide) ?_
      refine j_irem (pc := 201) g dL_sum_201 (by decide) ?_
      refine j_iadd (pc := 202) g dL_sum_202 ?_
      refine j_i2c (pc := 203) g dL_sum_203 ?_
      obtain ⟨k_204, hf⟩ := gx_ck hf
      obtain ⟨r204, h_204, hf⟩ := gx_bs hf
      refine lc_meaning (pc := 204) g (M := 200) ⟨(Nat.le_of_ble_eq_true rfl), (Nat.le_of_ble_eq_true rfl)⟩ hst k_204 h_204 (.refl _) (.refl _) ⟨(Nat.le_of_ble_eq_true rfl), (Nat.le_of_ble_eq_true rfl)⟩ (Nat.le_of_ble_eq_true rfl) dL_sum_204 ?_
      refine j_i2l (pc := 207) g dL_sum_207 ?_
      refine j_ladd (pc := 208) g dL_sum_208 ?_
      refine j_lstore_n (L' := [(1, .long (((31 : Int64) * v1) + r204.1.toInt64)), (0, .ref (ad 0)), (3, .int v3)]) (pc := 209) g dL_sum_209 rfl (Nat.le_of_ble_eq_true rfl) rfl ?_
      refine j_iinc (v := v3 + 1) (L' := [(3, .int (v3 + 1)), (1, .long (((31 : Int64) * v1) + r204.1.toInt64)), (0, .ref (ad 0))]) (pc := 210) g 2 dL_sum_210 rfl rfl (Nat.le_of_ble_eq_true rfl) rfl ?_
      refine j_goto (tgt := 178) (pc := 213) g dL_sum_213 (by decide) ?_
      refine j_sub (pc := 178) g [2, 1, 0] rfl ?_
      exact ih (r204.2, σ.2 + 1) (((31 : Int64) * v1) + r204.1.toInt64) (v3 + 1) hf
set_option maxRecDepth 100000 in
set_option maxHeartbeats 8000000 in
theorem tL_sum_151 {D : va_G} {t : Nat → ClassId} {aa : gx_AA} {l : Launch} {J : gx_J} {ad : Nat → Nat} {rs : va_W} {q : (Int64 × LwS)} (hst : l.stackTraces = false) (hxl : xL aa < 2 ^ 31) (g : gx_G D t (gx_E0 aa) l ({ frames := 9, cells := 200, slots := 1200, locals := 156 }) cL_sum RL 4 J) (hE : ∀ (v : Int64) (σ : LwS) (pc : Nat) (L : List (Nat × Value)), some (v, σ) = some q → σ.2 ≤ 200 → decode cL_sum pc = .ok (.lreturn, 1) → J σ.2 (6 * σ.2) (kW aa ad t σ.1 rs) pc L [.long v])  : ∀ (n : Nat) (σ : LwS) (v1 : Int64) (v3 : Int32), fL_sum_151 aa n σ v1 v3 = some q → J σ.2 (6 * σ.2) (kW aa ad t σ.1 rs) 151 [(0, .ref (ad 0)), (1, .long v1), (3, .int v3)] [] := by
  intro n
  induction n with
  | zero => intro σ v1 v3 hf; cases hf
  | succ n ih =>
    intro σ v1 v3 hf
    replace hf := (fL_sum_151_s aa n σ v1 v3).symm.trans hf
    refine j_iload_n (pc := 151) g 2 dL_sum_151 rfl ?_
    refine j_bipush (v := 100) (pc := 152) g dL_sum_152 (by decide) ?_
    refine j_icmp_ge (tgt := 176) (pc := 154) g dL_sum_154 (by decide) (fun c_154 => ?_) (fun c_154 => ?_)
    · have hf := gx_it c_154 hf
      refine j_iconst (v := 0) (pc := 176) g dL_sum_176 (by decide) ?_
      refine j_istore_n (L' := [(3, .int (0 : Int32)), (0, .ref (ad 0)), (1, .long v1)]) (pc := 177) g dL_sum_177 rfl (Nat.le_of_ble_eq_true rfl) rfl ?_
      refine j_sub (pc := 178) g [1, 2, 0] rfl ?_
      exact tL_sum_178 hst hxl g hE 2000 σ v1 (0 : Int32) hf
    · have hf := gx_if c_154 hf
      refine j_ldc2 (pc := 157) g q_kl301_L dL_sum_157 ?_
      refine j_lload_n (pc := 160) g 1 dL_sum_160 rfl ?_
      refine j_lmul (pc := 161) g dL_sum_161 ?_
      refine j_aload_n (pc := 162) g 0 dL_sum_162 rfl ?_
      refine j_iload_n (pc := 163) g 2 dL_sum_163 rfl ?_
      obtain ⟨k_164, hf⟩ := gx_ck hf
      obtain ⟨r164, h_164, hf⟩ := gx_bs hf
      refine lc_flagsWith (pc := 164) g (M := 200) ⟨(Nat.le_of_ble_eq_true rfl), (Nat.le_of_ble_eq_true rfl)⟩ hst k_164 h_164 (.refl _) (.refl _) ⟨(Nat.le_of_ble_eq_true rfl), (Nat.le_of_ble_eq_true rfl)⟩ (Nat.le_of_ble_eq_true rfl) dL_sum_164 ?_
      refine j_i2l (pc := 167) g dL_sum_167 ?_
      refine j_ladd (pc := 168) g dL_sum_168 ?_
      refine j_lstore_n (L' := [(1, .long (((31 : Int64) * v1) + r164.1.toInt64)), (0, .ref (ad 0)), (3, .int v3)]) (pc := 169) g dL_sum_169 rfl (Nat.le_of_ble_eq_true rfl) rfl ?_
      refine j_iinc (v := v3 + 1) (L' := [(3, .int (v3 + 1)), (1, .long (((31 : Int64) * v1) + r164.1.toInt64)), (0, .ref (ad 0))]) (pc := 170) g 2 dL_sum_170 rfl rfl (Nat.le_of_ble_eq_true rfl) rfl ?_
      refine j_goto (tgt := 151) (pc := 173) g dL_sum_173 (by decide) ?_
      refine j_sub (pc := 151) g [2, 1, 0] rfl ?_
      exact ih (r164.2, σ.2 + 1) (((31 : Int64) * v1) + r164.1.toInt64) (v3 + 1) hf
set_option maxRecDepth 100000 in
set_option maxHeartbeats 8000000 in
theorem tL_sum_100 {D : va_G} {t : Nat → ClassId} {aa : gx_AA} {l : Launch} {J : gx_J} {ad : Nat → Nat} {rs : va_W} {q : (Int64 × LwS)} (hst : l.stackTraces = false) (hxl : xL aa < 2 ^ 31) (g : gx_G D t (gx_E0 aa) l ({ frames := 9, cells := 200, slots := 1200, locals := 156 }) cL_sum RL 4 J) (hE : ∀ (v : Int64) (σ : LwS) (pc : Nat) (L : List (Nat × Value)), some (v, σ) = some q → σ.2 ≤ 200 → decode cL_sum pc = .ok (.lreturn, 1) → J σ.2 (6 * σ.2) (kW aa ad t σ.1 rs) pc L [.long v])  : ∀ (n : Nat) (σ : LwS) (v1 : Int64) (v3 : Int32), fL_sum_100 aa n σ v1 v3 = some q → J σ.2 (6 * σ.2) (kW aa ad t σ.1 rs) 100 [(0, .ref (ad 0)), (1, .long v1), (3, .int v3)] [] := by
  intro n
  induction n with
  | zero => intro σ v1 v3 hf; cases hf
  | succ n ih =>
    intro σ v1 v3 hf
    replace hf := (fL_sum_100_s aa n σ v1 v3).symm.trans hf
    refine j_iload_n (pc := 100) g 2 dL_sum_100 rfl ?_
    refine j_aload_n (pc := 101) g 0 dL_sum_101 rfl ?_
    obtain ⟨k_102, hf⟩ := gx_ck hf
    obtain ⟨r102, h_102, hf⟩ := gx_bs hf
    refine lv_orderCount (pc := 102) g (M := 200) ⟨(Nat.le_of_ble_eq_true rfl), (Nat.le_of_ble_eq_true rfl)⟩ k_102 h_102 (q0 := 0) rfl rfl (.refl _) (.refl _) ⟨(Nat.le_of_ble_eq_true rfl), (Nat.le_of_ble_eq_true rfl)⟩ (Nat.le_of_ble_eq_true rfl) dL_sum_102 ?_
    refine j_icmp_ge (tgt := 149) (pc := 105) g dL_sum_105 (by decide) (fun c_105 => ?_) (fun c_105 => ?_)
    · have hf := gx_it c_105 hf
      refine j_iconst (v := 0) (pc := 149) g dL_sum_149 (by decide) ?_
      refine j_istore_n (L' := [(3, .int (0 : Int32)), (0, .ref (ad 0)), (1, .long v1)]) (pc := 150) g dL_sum_150 rfl (Nat.le_of_ble_eq_true rfl) rfl ?_
      refine j_sub (pc := 151) g [1, 2, 0] rfl ?_
      exact tL_sum_151 hst hxl g hE 2000 σ v1 (0 : Int32) hf
    · have hf := gx_if c_105 hf
      refine j_ldc2 (pc := 108) g q_kl301_L dL_sum_108 ?_
      refine j_lload_n (pc := 111) g 1 dL_sum_111 rfl ?_
      refine j_lmul (pc := 112) g dL_sum_112 ?_
      refine j_ldc2 (pc := 113) g q_kl294_L dL_sum_113 ?_
      refine j_aload_n (pc := 116) g 0 dL_sum_116 rfl ?_
      refine j_iload_n (pc := 117) g 2 dL_sum_117 rfl ?_
      obtain ⟨k_118, hf⟩ := gx_ck hf
      obtain ⟨r118, h_118, hf⟩ := gx_bs hf
      refine lc_holder (pc := 118) g (M := 200) ⟨(Nat.le_of_ble_eq_true rfl), (Nat.le_of_ble_eq_true rfl)⟩ hst k_118 h_118 (.refl _) (.refl _) ⟨(Nat.le_of_ble_eq_true rfl), (Nat.le_of_ble_eq_true rfl)⟩ (Nat.le_of_ble_eq_true rfl) dL_sum_118 ?_
      refine j_i2l (pc := 121) g dL_sum_121 ?_
      refine j_lmul (pc := 122) g dL_sum_122 ?_
      refine j_ladd (pc := 123) g dL_sum_123 ?_
      refine j_ldc2 (pc := 124) g q_kl299_L dL_sum_124 ?_
      refine j_aload_n (pc := 127) g 0 dL_sum_127 rfl ?_
      refine j_iload_n (pc := 128) g 2 dL_sum_128 rfl ?_
      obtain ⟨k_129, hf⟩ := gx_ck hf
      obtain ⟨r129, h_129, hf⟩ := gx_bs hf
      refine lc_target (pc := 129) g (M := 200) ⟨(Nat.le_of_ble_eq_true rfl), (Nat.le_of_ble_eq_true rfl)⟩ hst k_129 h_129 (.refl _) (.refl _) ⟨(Nat.le_of_ble_eq_true rfl), (Nat.le_of_ble_eq_true rfl)⟩ (Nat.le_of_ble_eq_true rfl) dL_sum_129 ?_
      refine j_i2l (pc := 132) g dL_sum_132 ?_
      refine j_lmul (pc := 133) g dL_sum_133 ?_
      refine j_ladd (pc := 134) g dL_sum_134 ?_
      refine j_aload_n (pc := 135) g 0 dL_sum_135 rfl ?_
      refine j_iload_n (pc := 136) g 2 dL_sum_136 rfl ?_
      obtain ⟨k_137, hf⟩ := gx_ck hf
      obtain ⟨r137, h_137, hf⟩ := gx_bs hf
      refine lc_severity (pc := 137) g (M := 200) ⟨(Nat.le_of_ble_eq_true rfl), (Nat.le_of_ble_eq_true rfl)⟩ hst k_137 h_137 (.refl _) (.refl _) ⟨(Nat.le_of_ble_eq_true rfl), (Nat.le_of_ble_eq_true rfl)⟩ (Nat.le_of_ble_eq_true rfl) dL_sum_137 ?_
      refine j_i2l (pc := 140) g dL_sum_140 ?_
      refine j_ladd (pc := 141) g dL_sum_141 ?_
      refine j_lstore_n (L' := [(1, .long (((((31 : Int64) * v1) + ((1009 : Int64) * r118.1.toInt64)) + ((101 : Int64) * r129.1.toInt64)) + r137.1.toInt64)), (0, .ref (ad 0)), (3, .int v3)]) (pc := 142) g dL_sum_142 rfl (Nat.le_of_ble_eq_true rfl) rfl ?_
      refine j_iinc (v := v3 + 1) (L' := [(3, .int (v3 + 1)), (1, .long (((((31 : Int64) * v1) + ((1009 : Int64) * r118.1.toInt64)) + ((101 : Int64) * r129.1.toInt64)) + r137.1.toInt64)), (0, .ref (ad 0))]) (pc := 143) g 2 dL_sum_143 rfl rfl (Nat.le_of_ble_eq_true rfl) rfl ?_
      refine j_goto (tgt := 100) (pc := 146) g dL_sum_146 (by decide) ?_
      refine j_sub (pc := 100) g [2, 1, 0] rfl ?_
      exact ih (r137.2, ((σ.2 + 1) + 1) + 1) (((((31 : Int64) * v1) + ((1009 : Int64) * r118.1.toInt64)) + ((101 : Int64) * r129.1.toInt64)) + r137.1.toInt64) (v3 + 1) hf
set_option maxRecDepth 100000 in
set_option maxHeartbeats 8000000 in
theorem tL_sum_38 {D : va_G} {t : Nat → ClassId} {aa : gx_AA} {l : Launch} {J : gx_J} {ad : Nat → Nat} {rs : va_W} {q : (Int64 × LwS)} (hst : l.stackTraces = false) (hxl : xL aa < 2 ^ 31) (g : gx_G D t (gx_E0 aa) l ({ frames := 9, cells := 200, slots := 1200, locals := 156 }) cL_sum RL 4 J) (hE : ∀ (v : Int64) (σ : LwS) (pc : Nat) (L : List (Nat × Value)), some (v, σ) = some q → σ.2 ≤ 200 → decode cL_sum pc = .ok (.lreturn, 1) → J σ.2 (6 * σ.2) (kW aa ad t σ.1 rs) pc L [.long v])  : ∀ (n : Nat) (σ : LwS) (v1 : Int64) (v3 : Int32), fL_sum_38 aa n σ v1 v3 = some q → J σ.2 (6 * σ.2) (kW aa ad t σ.1 rs) 38 [(0, .ref (ad 0)), (1, .long v1), (3, .int v3)] [] := by
  intro n
  induction n with
  | zero => intro σ v1 v3 hf; cases hf
  | succ n ih =>
    intro σ v1 v3 hf
    replace hf := (fL_sum_38_s aa n σ v1 v3).symm.trans hf
    refine j_iload_n (pc := 38) g 2 dL_sum_38 rfl ?_
    refine j_aload_n (pc := 39) g 0 dL_sum_39 rfl ?_
    obtain ⟨k_40, hf⟩ := gx_ck hf
    obtain ⟨r40, h_40, hf⟩ := gx_bs hf
    refine lv_appointedCount (pc := 40) g (M := 200) ⟨(Nat.le_of_ble_eq_true rfl), (Nat.le_of_ble_eq_true rfl)⟩ k_40 h_40 (q0 := 0) rfl rfl (.refl _) (.refl _) ⟨(Nat.le_of_ble_eq_true rfl), (Nat.le_of_ble_eq_true rfl)⟩ (Nat.le_of_ble_eq_true rfl) dL_sum_40 ?_
    refine j_icmp_ge (tgt := 98) (pc := 43) g dL_sum_43 (by decide) (fun c_43 => ?_) (fun c_43 => ?_)
    · have hf := gx_it c_43 hf
      refine j_iconst (v := 0) (pc := 98) g dL_sum_98 (by decide) ?_
      refine j_istore_n (L' := [(3, .int (0 : Int32)), (0, .ref (ad 0)), (1, .long v1)]) (pc := 99) g dL_sum_99 rfl (Nat.le_of_ble_eq_true rfl) rfl ?_
      refine j_sub (pc := 100) g [1, 2, 0] rfl ?_
      exact tL_sum_100 hst hxl g hE 2000 σ v1 (0 : Int32) hf
    · have hf := gx_if c_43 hf
      refine j_ldc2 (pc := 46) g q_kl301_L dL_sum_46 ?_
      refine j_lload_n (pc := 49) g 1 dL_sum_49 rfl ?_
      refine j_lmul (pc := 50) g dL_sum_50 ?_
      refine j_ldc2 (pc := 51) g q_kl294_L dL_sum_51 ?_
      refine j_aload_n (pc := 54) g 0 dL_sum_54 rfl ?_
      refine j_iload_n (pc := 55) g 2 dL_sum_55 rfl ?_
      obtain ⟨k_56, hf⟩ := gx_ck hf
      obtain ⟨r56, h_56, hf⟩ := gx_bs hf
      refine lc_rank (pc := 56) g (M := 200) ⟨(Nat.le_of_ble_eq_true rfl), (Nat.le_of_ble_eq_true rfl)⟩ hst k_56 h_56 (.refl _) (.refl _) ⟨(Nat.le_of_ble_eq_true rfl), (Nat.le_of_ble_eq_true rfl)⟩ (Nat.le_of_ble_eq_true rfl) dL_sum_56 ?_
      refine j_i2l (pc := 59) g dL_sum_59 ?_
      refine j_lmul (pc := 60) g dL_sum_60 ?_
      refine j_ladd (pc := 61) g dL_sum_61 ?_
      refine j_ldc2 (pc := 62) g q_kl299_L dL_sum_62 ?_
      refine j_aload_n (pc := 65) g 0 dL_sum_65 rfl ?_
      refine j_iload_n (pc := 66) g 2 dL_sum_66 rfl ?_
      obtain ⟨k_67, hf⟩ := gx_ck hf
      obtain ⟨r67, h_67, hf⟩ := gx_bs hf
      refine lc_loyalty (pc := 67) g (M := 200) ⟨(Nat.le_of_ble_eq_true rfl), (Nat.le_of_ble_eq_true rfl)⟩ hst k_67 h_67 (.refl _) (.refl _) ⟨(Nat.le_of_ble_eq_true rfl), (Nat.le_of_ble_eq_true rfl)⟩ (Nat.le_of_ble_eq_true rfl) dL_sum_67 ?_
      refine j_i2l (pc := 70) g dL_sum_70 ?_
      refine j_lmul (pc := 71) g dL_sum_71 ?_
      refine j_ladd (pc := 72) g dL_sum_72 ?_
      refine j_ldc2 (pc := 73) g q_kl301_L dL_sum_73 ?_
      refine j_aload_n (pc := 76) g 0 dL_sum_76 rfl ?_
      refine j_iload_n (pc := 77) g 2 dL_sum_77 rfl ?_
      obtain ⟨k_78, hf⟩ := gx_ck hf
      obtain ⟨r78, h_78, hf⟩ := gx_bs hf
      refine lc_refusals (pc := 78) g (M := 200) ⟨(Nat.le_of_ble_eq_true rfl), (Nat.le_of_ble_eq_true rfl)⟩ hst k_78 h_78 (.refl _) (.refl _) ⟨(Nat.le_of_ble_eq_true rfl), (Nat.le_of_ble_eq_true rfl)⟩ (Nat.le_of_ble_eq_true rfl) dL_sum_78 ?_
      refine j_i2l (pc := 81) g dL_sum_81 ?_
      refine j_lmul (pc := 82) g dL_sum_82 ?_
      refine j_ladd (pc := 83) g dL_sum_83 ?_
      refine j_aload_n (pc := 84) g 0 dL_sum_84 rfl ?_
      refine j_iload_n (pc := 85) g 2 dL_sum_85 rfl ?_
      obtain ⟨k_86, hf⟩ := gx_ck hf
      obtain ⟨r86, h_86, hf⟩ := gx_bs hf
      refine lc_superior (pc := 86) g (M := 200) ⟨(Nat.le_of_ble_eq_true rfl), (Nat.le_of_ble_eq_true rfl)⟩ hst k_86 h_86 (.refl _) (.refl _) ⟨(Nat.le_of_ble_eq_true rfl), (Nat.le_of_ble_eq_true rfl)⟩ (Nat.le_of_ble_eq_true rfl) dL_sum_86 ?_
      refine j_i2l (pc := 89) g dL_sum_89 ?_
      refine j_ladd (pc := 90) g dL_sum_90 ?_
      refine j_lstore_n (L' := [(1, .long ((((((31 : Int64) * v1) + ((1009 : Int64) * r56.1.toInt64)) + ((101 : Int64) * r67.1.toInt64)) + ((31 : Int64) * r78.1.toInt64)) + r86.1.toInt64)), (0, .ref (ad 0)), (3, .int v3)]) (pc := 91) g dL_sum_91 rfl (Nat.le_of_ble_eq_true rfl) rfl ?_
      refine j_iinc (v := v3 + 1) (L' := [(3, .int (v3 + 1)), (1, .long ((((((31 : Int64) * v1) + ((1009 : Int64) * r56.1.toInt64)) + ((101 : Int64) * r67.1.toInt64)) + ((31 : Int64) * r78.1.toInt64)) + r86.1.toInt64)), (0, .ref (ad 0))]) (pc := 92) g 2 dL_sum_92 rfl rfl (Nat.le_of_ble_eq_true rfl) rfl ?_
      refine j_goto (tgt := 38) (pc := 95) g dL_sum_95 (by decide) ?_
      refine j_sub (pc := 38) g [2, 1, 0] rfl ?_
      exact ih (r86.2, (((σ.2 + 1) + 1) + 1) + 1) ((((((31 : Int64) * v1) + ((1009 : Int64) * r56.1.toInt64)) + ((101 : Int64) * r67.1.toInt64)) + ((31 : Int64) * r78.1.toInt64)) + r86.1.toInt64) (v3 + 1) hf
set_option maxRecDepth 100000 in
set_option maxHeartbeats 8000000 in
theorem cL_sum_ {D : va_G} {t : Nat → ClassId} {aa : gx_AA} {l : Launch} {ad : Nat → Nat} {rs : va_W} {σ : CS} {q : (Int64 × LwS)} (hst : l.stackTraces = false) (hxl : xL aa < 2 ^ 31) (hf : fL_sum aa σ = some q) : gx_CM D t (gx_E0 aa) l yL_sum cL_sum 4 (some .long) 9 156 200 (6 * 200) [.ref (ad 0)] (kW aa ad t σ rs) (kW aa ad t q.2.1 rs) (some (.long q.1)) := by
  refine gx_intro_ml (by decide) (Nat.le_of_ble_eq_true rfl) (fun J g0 hE0 => ?_)
  have g : gx_G D t (gx_E0 aa) l ({ frames := 9, cells := 200, slots := 1200, locals := 156 }) cL_sum RL 4 J := g0
  have hE : ∀ (v : Int64) (σ : LwS) (pc : Nat) (L : List (Nat × Value)), some (v, σ) = some q → σ.2 ≤ 200 → decode cL_sum pc = .ok (.lreturn, 1) → J σ.2 (6 * σ.2) (kW aa ad t σ.1 rs) pc L [.long v] := fun v σ pc L h h0 h1 => by cases h; exact j_wid g h0 (Nat.mul_le_mul_left 6 h0) (hE0 pc L h1)
  unfold fL_sum at hf
  show J 0 (6 * 0) (kW aa ad t σ rs) 0 [(0, .ref (ad 0))] []
  refine j_ldc2 (pc := 0) g q_kl294_L dL_sum_0 ?_
  refine j_aload_n (pc := 3) g 0 dL_sum_3 rfl ?_
  obtain ⟨k_4, hf⟩ := gx_ck hf
  obtain ⟨r4, h_4, hf⟩ := gx_bs hf
  refine lv_hour (pc := 4) g (M := 200) ⟨(Nat.le_of_ble_eq_true rfl), (Nat.le_of_ble_eq_true rfl)⟩ k_4 h_4 (q0 := 0) rfl rfl (.refl _) (.refl _) ⟨(Nat.le_of_ble_eq_true rfl), (Nat.le_of_ble_eq_true rfl)⟩ (Nat.le_of_ble_eq_true rfl) dL_sum_4 ?_
  refine j_i2l (pc := 7) g dL_sum_7 ?_
  refine j_lmul (pc := 8) g dL_sum_8 ?_
  refine j_ldc2 (pc := 9) g q_kl299_L dL_sum_9 ?_
  refine j_aload_n (pc := 12) g 0 dL_sum_12 rfl ?_
  obtain ⟨k_13, hf⟩ := gx_ck hf
  obtain ⟨r13, h_13, hf⟩ := gx_bs hf
  refine lv_executedOrders (pc := 13) g (M := 200) ⟨(Nat.le_of_ble_eq_true rfl), (Nat.le_of_ble_eq_true rfl)⟩ k_13 h_13 (q0 := 0) rfl rfl (.refl _) (.refl _) ⟨(Nat.le_of_ble_eq_true rfl), (Nat.le_of_ble_eq_true rfl)⟩ (Nat.le_of_ble_eq_true rfl) dL_sum_13 ?_
  refine j_i2l (pc := 16) g dL_sum_16 ?_
  refine j_lmul (pc := 17) g dL_sum_17 ?_
  refine j_ladd (pc := 18) g dL_sum_18 ?_
  refine j_ldc2 (pc := 19) g q_kl301_L dL_sum_19 ?_
  refine j_aload_n (pc := 22) g 0 dL_sum_22 rfl ?_
  obtain ⟨k_23, hf⟩ := gx_ck hf
  obtain ⟨r23, h_23, hf⟩ := gx_bs hf
  refine lv_refusedOrders (pc := 23) g (M := 200) ⟨(Nat.le_of_ble_eq_true rfl), (Nat.le_of_ble_eq_true rfl)⟩ k_23 h_23 (q0 := 0) rfl rfl (.refl _) (.refl _) ⟨(Nat.le_of_ble_eq_true rfl), (Nat.le_of_ble_eq_true rfl)⟩ (Nat.le_of_ble_eq_true rfl) dL_sum_23 ?_
  refine j_i2l (pc := 26) g dL_sum_26 ?_
  refine j_lmul (pc := 27) g dL_sum_27 ?_
  refine j_ladd (pc := 28) g dL_sum_28 ?_
  refine j_aload_n (pc := 29) g 0 dL_sum_29 rfl ?_
  obtain ⟨k_30, hf⟩ := gx_ck hf
  obtain ⟨r30, h_30, hf⟩ := gx_bs hf
  refine lv_lostOrders (pc := 30) g (M := 200) ⟨(Nat.le_of_ble_eq_true rfl), (Nat.le_of_ble_eq_true rfl)⟩ k_30 h_30 (q0 := 0) rfl rfl (.refl _) (.refl _) ⟨(Nat.le_of_ble_eq_true rfl), (Nat.le_of_ble_eq_true rfl)⟩ (Nat.le_of_ble_eq_true rfl) dL_sum_30 ?_
  refine j_i2l (pc := 33) g dL_sum_33 ?_
  refine j_ladd (pc := 34) g dL_sum_34 ?_
  refine j_lstore_n (L' := [(1, .long (((((1009 : Int64) * r4.toInt64) + ((101 : Int64) * r13.toInt64)) + ((31 : Int64) * r23.toInt64)) + r30.toInt64)), (0, .ref (ad 0))]) (pc := 35) g dL_sum_35 rfl (Nat.le_of_ble_eq_true rfl) rfl ?_
  refine j_iconst (v := 0) (pc := 36) g dL_sum_36 (by decide) ?_
  refine j_istore_n (L' := [(3, .int (0 : Int32)), (1, .long (((((1009 : Int64) * r4.toInt64) + ((101 : Int64) * r13.toInt64)) + ((31 : Int64) * r23.toInt64)) + r30.toInt64)), (0, .ref (ad 0))]) (pc := 37) g dL_sum_37 rfl (Nat.le_of_ble_eq_true rfl) rfl ?_
  refine j_sub (pc := 38) g [2, 1, 0] rfl ?_
  exact tL_sum_38 hst hxl g hE 2000 (σ, 0) (((((1009 : Int64) * r4.toInt64) + ((101 : Int64) * r13.toInt64)) + ((31 : Int64) * r23.toInt64)) + r30.toInt64) (0 : Int32) hf
