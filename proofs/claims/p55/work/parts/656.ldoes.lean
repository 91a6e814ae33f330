theorem lc_appoint {D : va_G} {t : Nat → ClassId} {aa : gx_AA} {l : Launch} {R : Room} {cc : ByteArray} {nL : Nat} {J : gx_J} {ad : Nat → Nat} {rs w w' : va_W} {κ pc : Nat} {L : List (Nat × Value)} {rest : List Value} (g : gx_G D t (gx_E0 aa) l R cc RL nL J) {M : Nat} (hM : M ≤ R.cells ∧ 6 * M ≤ R.slots) (hst : l.stackTraces = false) (hk : κ + 1 ≤ M) {σ : CS} {p1 : Int32} {p2 : Int32} {p3 : Int32} {q : (Int32 × CS)} (hf : fL_appoint σ p1 p2 p3 = some q) (hp : w.Perm (kW aa ad t σ rs)) (hp' : (kW aa ad t q.2 rs).Perm w') (hR : 9 + 1 ≤ R.frames ∧ 8 + (5 + 11) + 154 ≤ R.locals) (hcat : (rest.map fun v => v.category).sum ≤ 8) (hd : decode cc pc = .ok (.invokestatic 240, 3)) (kk : J (κ + 1) (6 * (κ + 1)) w' (pc + 3) L (.int q.1 :: rest)) : J κ (6 * κ) w pc L (.int p3 :: .int p2 :: .int p1 :: .ref (ad 0) :: rest) := j_callH (na := 4) (As := [.ref (ad 0), .int p1, .int p2, .int p3]) g (hL_appoint_ (rs := rs) hst hf) q_t_L_appoint q_w_L_appoint q_l_L_240 q_n_L (by decide) (by decide +kernel) rfl hR (lk_add hM hk) hcat hp hp' hd kk rfl
theorem lc_promote {D : va_G} {t : Nat → ClassId} {aa : gx_AA} {l : Launch} {R : Room} {cc : ByteArray} {nL : Nat} {J : gx_J} {ad : Nat → Nat} {rs w w' : va_W} {κ pc : Nat} {L : List (Nat × Value)} {rest : List Value} (g : gx_G D t (gx_E0 aa) l R cc RL nL J) {M : Nat} (hM : M ≤ R.cells ∧ 6 * M ≤ R.slots) (hst : l.stackTraces = false) (hk : κ + 1 ≤ M) {σ : CS} {p1 : Int32} {q : (Int32 × CS)} (hf : fL_promote σ p1 = some q) (hp : w.Perm (kW aa ad t σ rs)) (hp' : (kW aa ad t q.2 rs).Perm w') (hR : 9 + 1 ≤ R.frames ∧ 8 + (3 + 11) + 152 ≤ R.locals) (hcat : (rest.map fun v => v.category).sum ≤ 8) (hd : decode cc pc = .ok (.invokestatic 243, 3)) (kk : J (κ + 1) (6 * (κ + 1)) w' (pc + 3) L (.int q.1 :: rest)) : J κ (6 * κ) w pc L (.int p1 :: .ref (ad 0) :: rest) := j_callH (na := 2) (As := [.ref (ad 0), .int p1]) g (hL_promote_ (rs := rs) hst hf) q_t_L_promote q_w_L_promote q_l_L_243 q_n_L (by decide) (by decide +kernel) rfl hR (lk_add hM hk) hcat hp hp' hd kk rfl
theorem lc_transfer {D : va_G} {t : Nat → ClassId} {aa : gx_AA} {l : Launch} {R : Room} {cc : ByteArray} {nL : Nat} {J : gx_J} {ad : Nat → Nat} {rs w w' : va_W} {κ pc : Nat} {L : List (Nat × Value)} {rest : List Value} (g : gx_G D t (gx_E0 aa) l R cc RL nL J) {M : Nat} (hM : M ≤ R.cells ∧ 6 * M ≤ R.slots) (hst : l.stackTraces = false) (hk : κ + 1 ≤ M) {σ : CS} {p1 : Int32} {p2 : Int32} {q : (Int32 × CS)} (hf : fL_transfer σ p1 p2 = some q) (hp : w.Perm (kW aa ad t σ rs)) (hp' : (kW aa ad t q.2 rs).Perm w') (hR : 19 + 1 ≤ R.frames ∧ 8 + (4 + 11) + 452 ≤ R.locals) (hcat : (rest.map fun v => v.category).sum ≤ 8) (hd : decode cc pc = .ok (.invokestatic 245, 3)) (kk : J (κ + 1) (6 * (κ + 1)) w' (pc + 3) L (.int q.1 :: rest)) : J κ (6 * κ) w pc L (.int p2 :: .int p1 :: .ref (ad 0) :: rest) := j_callH (na := 3) (As := [.ref (ad 0), .int p1, .int p2]) g (hL_transfer_ (rs := rs) hst hf) q_t_L_transfer q_w_L_transfer q_l_L_245 q_n_L (by decide) (by decide +kernel) rfl hR (lk_add hM hk) hcat hp hp' hd kk rfl
theorem lc_dismiss {D : va_G} {t : Nat → ClassId} {aa : gx_AA} {l : Launch} {R : Room} {cc : ByteArray} {nL : Nat} {J : gx_J} {ad : Nat → Nat} {rs w w' : va_W} {κ pc : Nat} {L : List (Nat × Value)} {rest : List Value} (g : gx_G D t (gx_E0 aa) l R cc RL nL J) {M : Nat} (hM : M ≤ R.cells ∧ 6 * M ≤ R.slots) (hst : l.stackTraces = false) (hk : κ + 1 ≤ M) {σ : CS} {p1 : Int32} {q : (Int32 × CS)} (hf : fL_dismiss σ p1 = some q) (hp : w.Perm (kW aa ad t σ rs)) (hp' : (kW aa ad t q.2 rs).Perm w') (hR : 9 + 1 ≤ R.frames ∧ 8 + (3 + 11) + 152 ≤ R.locals) (hcat : (rest.map fun v => v.category).sum ≤ 8) (hd : decode cc pc = .ok (.invokestatic 247, 3)) (kk : J (κ + 1) (6 * (κ + 1)) w' (pc + 3) L (.int q.1 :: rest)) : J κ (6 * κ) w pc L (.int p1 :: .ref (ad 0) :: rest) := j_callH (na := 2) (As := [.ref (ad 0), .int p1]) g (hL_dismiss_ (rs := rs) hst hf) q_t_L_dismiss q_w_L_dismiss q_l_L_247 q_n_L (by decide) (by decide +kernel) rfl hR (lk_add hM hk) hcat hp hp' hd kk rfl
theorem lc_issue {D : va_G} {t : Nat → ClassId} {aa : gx_AA} {l : Launch} {R : Room} {cc : ByteArray} {nL : Nat} {J : gx_J} {ad : Nat → Nat} {rs w w' : va_W} {κ pc : Nat} {L : List (Nat × Value)} {rest : List Value} (g : gx_G D t (gx_E0 aa) l R cc RL nL J) {M : Nat} (hM : M ≤ R.cells ∧ 6 * M ≤ R.slots) (hst : l.stackTraces = false) (hk : κ + 1 ≤ M) {σ : CS} {p1 : Int32} {p2 : Int32} {p3 : Int32} {q : (Int32 × CS)} (hf : fL_issue σ p1 p2 p3 = some q) (hp : w.Perm (kW aa ad t σ rs)) (hp' : (kW aa ad t q.2 rs).Perm w') (hR : 9 + 1 ≤ R.frames ∧ 8 + (5 + 11) + 154 ≤ R.locals) (hcat : (rest.map fun v => v.category).sum ≤ 8) (hd : decode cc pc = .ok (.invokestatic 292, 3)) (kk : J (κ + 1) (6 * (κ + 1)) w' (pc + 3) L (.int q.1 :: rest)) : J κ (6 * κ) w pc L (.int p3 :: .int p2 :: .int p1 :: .ref (ad 0) :: rest) := j_callH (na := 4) (As := [.ref (ad 0), .int p1, .int p2, .int p3]) g (hL_issue_ (rs := rs) hst hf) q_t_L_issue q_w_L_issue q_l_L_292 q_n_L (by decide) (by decide +kernel) rfl hR (lk_add hM hk) hcat hp hp' hd kk rfl
theorem lc_define {D : va_G} {t : Nat → ClassId} {aa : gx_AA} {l : Launch} {R : Room} {cc : ByteArray} {nL : Nat} {J : gx_J} {ad : Nat → Nat} {rs w w' : va_W} {κ pc : Nat} {L : List (Nat × Value)} {rest : List Value} (g : gx_G D t (gx_E0 aa) l R cc RL nL J) {M : Nat} (hM : M ≤ R.cells ∧ 6 * M ≤ R.slots) (hst : l.stackTraces = false) (hk : κ + 1 ≤ M) {σ : CS} {p1 : Int32} {p2 : Int32} {p3 : Int32} {q : (Int32 × CS)} (hf : fL_define σ p1 p2 p3 = some q) (hp : w.Perm (kW aa ad t σ rs)) (hp' : (kW aa ad t q.2 rs).Perm w') (hR : 9 + 1 ≤ R.frames ∧ 8 + (5 + 11) + 154 ≤ R.locals) (hcat : (rest.map fun v => v.category).sum ≤ 8) (hd : decode cc pc = .ok (.invokestatic 249, 3)) (kk : J (κ + 1) (6 * (κ + 1)) w' (pc + 3) L (.int q.1 :: rest)) : J κ (6 * κ) w pc L (.int p3 :: .int p2 :: .int p1 :: .ref (ad 0) :: rest) := j_callH (na := 4) (As := [.ref (ad 0), .int p1, .int p2, .int p3]) g (hL_define_ (rs := rs) hst hf) q_t_L_define q_w_L_define q_l_L_249 q_n_L (by decide) (by decide +kernel) rfl hR (lk_add hM hk) hcat hp hp' hd kk rfl
theorem lc_erase {D : va_G} {t : Nat → ClassId} {aa : gx_AA} {l : Launch} {R : Room} {cc : ByteArray} {nL : Nat} {J : gx_J} {ad : Nat → Nat} {rs w w' : va_W} {κ pc : Nat} {L : List (Nat × Value)} {rest : List Value} (g : gx_G D t (gx_E0 aa) l R cc RL nL J) {M : Nat} (hM : M ≤ R.cells ∧ 6 * M ≤ R.slots) (hst : l.stackTraces = false) (hk : κ + 1 ≤ M) {σ : CS} {p1 : Int32} {p2 : Int32} {q : (Int32 × CS)} (hf : fL_erase σ p1 p2 = some q) (hp : w.Perm (kW aa ad t σ rs)) (hp' : (kW aa ad t q.2 rs).Perm w') (hR : 9 + 1 ≤ R.frames ∧ 8 + (4 + 11) + 153 ≤ R.locals) (hcat : (rest.map fun v => v.category).sum ≤ 8) (hd : decode cc pc = .ok (.invokestatic 252, 3)) (kk : J (κ + 1) (6 * (κ + 1)) w' (pc + 3) L (.int q.1 :: rest)) : J κ (6 * κ) w pc L (.int p2 :: .int p1 :: .ref (ad 0) :: rest) := j_callH (na := 3) (As := [.ref (ad 0), .int p1, .int p2]) g (hL_erase_ (rs := rs) hst hf) q_t_L_erase q_w_L_erase q_l_L_252 q_n_L (by decide) (by decide +kernel) rfl hR (lk_add hM hk) hcat hp hp' hd kk rfl
theorem lc_passHours {D : va_G} {t : Nat → ClassId} {aa : gx_AA} {l : Launch} {R : Room} {cc : ByteArray} {nL : Nat} {J : gx_J} {ad : Nat → Nat} {rs w w' : va_W} {κ pc : Nat} {L : List (Nat × Value)} {rest : List Value} (g : gx_G D t (gx_E0 aa) l R cc RL nL J) {M : Nat} (hM : M ≤ R.cells ∧ 6 * M ≤ R.slots) (hst : l.stackTraces = false) (hk : κ + 1 ≤ M) {σ : CS} {p1 : Int32} {q : (Int32 × CS)} (hf : fL_passHours σ p1 = some q) (hp : w.Perm (kW aa ad t σ rs)) (hp' : (kW aa ad t q.2 rs).Perm w') (hR : 9 + 1 ≤ R.frames ∧ 8 + (3 + 11) + 152 ≤ R.locals) (hcat : (rest.map fun v => v.category).sum ≤ 8) (hd : decode cc pc = .ok (.invokestatic 255, 3)) (kk : J (κ + 1) (6 * (κ + 1)) w' (pc + 3) L (.int q.1 :: rest)) : J κ (6 * κ) w pc L (.int p1 :: .ref (ad 0) :: rest) := j_callH (na := 2) (As := [.ref (ad 0), .int p1]) g (hL_passHours_ (rs := rs) hst hf) q_t_L_passHours q_w_L_passHours q_l_L_255 q_n_L (by decide) (by decide +kernel) rfl hR (lk_add hM hk) hcat hp hp' hd kk rfl
set_option maxRecDepth 100000 in
set_option maxHeartbeats 8000000 in
theorem tL_does_252 {D : va_G} {t : Nat → ClassId} {aa : gx_AA} {l : Launch} {J : gx_J} {ad : Nat → Nat} {rs : va_W} {q : (Int32 × LwS)} (hst : l.stackTraces = false) (hxl : xL aa < 2 ^ 31) (g : gx_G D t (gx_E0 aa) l ({ frames := 40, cells := 900, slots := 5400, locals := 900 }) cL_does RL 12 J) (hE : ∀ (v : Int32) (σ : LwS) (pc : Nat) (L : List (Nat × Value)), some (v, σ) = some q → σ.2 ≤ 900 → decode cL_does pc = .ok (.ireturn, 1) → narrow .int (.int v) = .int v → J σ.2 (6 * σ.2) (kW aa ad t σ.1 rs) pc L [.int v])  : ∀ (σ : LwS) (v4 : Int32) (v7 : Int32) (v8 : Int32) (v9 : Int32), fL_does_252 aa σ v4 v7 v8 v9 = some q → J σ.2 (6 * σ.2) (kW aa ad t σ.1 rs) 252 [(3, .ref (ad 0)), (4, .int v4), (7, .int v7), (8, .int v8), (9, .int v9)] [] := by
  intro σ v4 v7 v8 v9 hf
  unfold fL_does_252 at hf
  refine j_aload_n (pc := 252) g 0 dL_does_252 rfl ?_
  refine j_iload (pc := 253) g 1 dL_does_253 rfl ?_
  refine j_iload (pc := 255) g 2 dL_does_255 rfl ?_
  refine j_bipush (v := 7) (pc := 257) g dL_does_257 (by decide) ?_
  refine j_irem (pc := 259) g dL_does_259 (by decide) ?_
  refine j_if_ne (tgt := 271) (pc := 260) g dL_does_260 (by decide) (fun c_260 => ?_) (fun c_260 => ?_)
  · have hf := gx_if c_260 hf
    refine j_iconst (v := 1) (pc := 271) g dL_does_271 (by decide) ?_
    refine j_iload (pc := 272) g 4 dL_does_272 rfl ?_
    refine j_iconst (v := 1) (pc := 274) g dL_does_274 (by decide) ?_
    refine j_isub (pc := 275) g dL_does_275 ?_
    refine j_iload (pc := 276) g 3 dL_does_276 rfl ?_
    refine j_iconst (v := 3) (pc := 278) g dL_does_278 (by decide) ?_
    refine j_irem (pc := 279) g dL_does_279 (by decide) ?_
    refine j_isub (pc := 280) g dL_does_280 ?_
    obtain ⟨h_281, hf⟩ := gx_ck hf
    refine j_max (pc := 281) g q_l_L_235 q_t_mathmax q_n_math q_c_mathmax (Nat.le_of_ble_eq_true rfl) (Nat.le_of_ble_eq_true rfl) (lk_le (M := 900) ⟨(Nat.le_of_ble_eq_true rfl), (Nat.le_of_ble_eq_true rfl)⟩ h_281) dL_does_281 ?_
    refine j_iload (pc := 284) g 2 dL_does_284 rfl ?_
    refine j_bipush (v := 29) (pc := 286) g dL_does_286 (by decide) ?_
    refine j_irem (pc := 288) g dL_does_288 (by decide) ?_
    refine j_if_ne (tgt := 297) (pc := 289) g dL_does_289 (by decide) (fun c_289 => ?_) (fun c_289 => ?_)
    · have hf := gx_if c_289 hf
      refine j_iload (pc := 297) g 2 dL_does_297 rfl ?_
      refine j_iconst (v := 2) (pc := 299) g dL_does_299 (by decide) ?_
      refine j_irem (pc := 300) g dL_does_300 (by decide) ?_
      refine j_if_ne (tgt := 312) (pc := 301) g dL_does_301 (by decide) (fun c_301 => ?_) (fun c_301 => ?_)
      · have hf := gx_if c_301 hf
        refine j_bipush (v := 60) (pc := 312) g dL_does_312 (by decide) ?_
        refine j_iload (pc := 314) g 3 dL_does_314 rfl ?_
        refine j_bipush (v := 41) (pc := 316) g dL_does_316 (by decide) ?_
        refine j_irem (pc := 318) g dL_does_318 (by decide) ?_
        refine j_iadd (pc := 319) g dL_does_319 ?_
        obtain ⟨k_320, hf⟩ := gx_ck hf
        obtain ⟨r320, h_320, hf⟩ := gx_bs hf
        refine lc_appoint (pc := 320) g (M := 900) ⟨(Nat.le_of_ble_eq_true rfl), (Nat.le_of_ble_eq_true rfl)⟩ hst k_320 h_320 (.refl _) (.refl _) ⟨(Nat.le_of_ble_eq_true rfl), (Nat.le_of_ble_eq_true rfl)⟩ (Nat.le_of_ble_eq_true rfl) dL_does_320 ?_
        obtain ⟨h_k, hf⟩ := gx_ck hf
        exact hE _ _ _ _ hf h_k dL_does_323 rfl
      · have hf := gx_it c_301 hf
        refine j_iload (pc := 304) g 3 dL_does_304 rfl ?_
        refine j_bipush (v := 101) (pc := 306) g dL_does_306 (by decide) ?_
        refine j_irem (pc := 308) g dL_does_308 (by decide) ?_
        refine j_goto (tgt := 320) (pc := 309) g dL_does_309 (by decide) ?_
        obtain ⟨k_320, hf⟩ := gx_ck hf
        obtain ⟨r320, h_320, hf⟩ := gx_bs hf
        refine lc_appoint (pc := 320) g (M := 900) ⟨(Nat.le_of_ble_eq_true rfl), (Nat.le_of_ble_eq_true rfl)⟩ hst k_320 h_320 (.refl _) (.refl _) ⟨(Nat.le_of_ble_eq_true rfl), (Nat.le_of_ble_eq_true rfl)⟩ (Nat.le_of_ble_eq_true rfl) dL_does_320 ?_
        obtain ⟨h_k, hf⟩ := gx_ck hf
        exact hE _ _ _ _ hf h_k dL_does_323 rfl
    · have hf := gx_it c_289 hf
      refine j_bipush (v := 101) (pc := 292) g dL_does_292 (by decide) ?_
      refine j_goto (tgt := 320) (pc := 294) g dL_does_294 (by decide) ?_
      obtain ⟨k_320, hf⟩ := gx_ck hf
      obtain ⟨r320, h_320, hf⟩ := gx_bs hf
      refine lc_appoint (pc := 320) g (M := 900) ⟨(Nat.le_of_ble_eq_true rfl), (Nat.le_of_ble_eq_true rfl)⟩ hst k_320 h_320 (.refl _) (.refl _) ⟨(Nat.le_of_ble_eq_true rfl), (Nat.le_of_ble_eq_true rfl)⟩ (Nat.le_of_ble_eq_true rfl) dL_does_320 ?_
      obtain ⟨h_k, hf⟩ := gx_ck hf
      exact hE _ _ _ _ hf h_k dL_does_323 rfl
  · have hf := gx_it c_260 hf
    refine j_iload (pc := 263) g 3 dL_does_263 rfl ?_
    refine j_bipush (v := 10) (pc := 265) g dL_does_265 (by decide) ?_
    refine j_irem (pc := 267) g dL_does_267 (by decide) ?_
    refine j_goto (tgt := 284) (pc := 268) g dL_does_268 (by decide) ?_
    refine j_iload (pc := 284) g 2 dL_does_284 rfl ?_
    refine j_bipush (v := 29) (pc := 286) g dL_does_286 (by decide) ?_
    refine j_irem (pc := 288) g dL_does_288 (by decide) ?_
    refine j_if_ne (tgt := 297) (pc := 289) g dL_does_289 (by decide) (fun c_289 => ?_) (fun c_289 => ?_)
    · have hf := gx_if c_289 hf
      refine j_iload (pc := 297) g 2 dL_does_297 rfl ?_
      refine j_iconst (v := 2) (pc := 299) g dL_does_299 (by decide) ?_
      refine j_irem (pc := 300) g dL_does_300 (by decide) ?_
      refine j_if_ne (tgt := 312) (pc := 301) g dL_does_301 (by decide) (fun c_301 => ?_) (fun c_301 => ?_)
      · have hf := gx_if c_301 hf
        refine j_bipush (v := 60) (pc := 312) g dL_does_312 (by decide) ?_
        refine j_iload (pc := 314) g 3 dL_does_314 rfl ?_
        refine j_bipush (v := 41) (pc := 316) g dL_does_316 (by decide) ?_
        refine j_irem (pc := 318) g dL_does_318 (by decide) ?_
        refine j_iadd (pc := 319) g dL_does_319 ?_
        obtain ⟨k_320, hf⟩ := gx_ck hf
        obtain ⟨r320, h_320, hf⟩ := gx_bs hf
        refine lc_appoint (pc := 320) g (M := 900) ⟨(Nat.le_of_ble_eq_true rfl), (Nat.le_of_ble_eq_true rfl)⟩ hst k_320 h_320 (.refl _) (.refl _) ⟨(Nat.le_of_ble_eq_true rfl), (Nat.le_of_ble_eq_true rfl)⟩ (Nat.le_of_ble_eq_true rfl) dL_does_320 ?_
        obtain ⟨h_k, hf⟩ := gx_ck hf
        exact hE _ _ _ _ hf h_k dL_does_323 rfl
      · have hf := gx_it c_301 hf
        refine j_iload (pc := 304) g 3 dL_does_304 rfl ?_
        refine j_bipush (v := 101) (pc := 306) g dL_does_306 (by decide) ?_
        refine j_irem (pc := 308) g dL_does_308 (by decide) ?_
        refine j_goto (tgt := 320) (pc := 309) g dL_does_309 (by decide) ?_
        obtain ⟨k_320, hf⟩ := gx_ck hf
        obtain ⟨r320, h_320, hf⟩ := gx_bs hf
        refine lc_appoint (pc := 320) g (M := 900) ⟨(Nat.le_of_ble_eq_true rfl), (Nat.le_of_ble_eq_true rfl)⟩ hst k_320 h_320 (.refl _) (.refl _) ⟨(Nat.le_of_ble_eq_true rfl), (Nat.le_of_ble_eq_true rfl)⟩ (Nat.le_of_ble_eq_true rfl) dL_does_320 ?_
        obtain ⟨h_k, hf⟩ := gx_ck hf
        exact hE _ _ _ _ hf h_k dL_does_323 rfl
    · have hf := gx_it c_289 hf
      refine j_bipush (v := 101) (pc := 292) g dL_does_292 (by decide) ?_
      refine j_goto (tgt := 320) (pc := 294) g dL_does_294 (by decide) ?_
      obtain ⟨k_320, hf⟩ := gx_ck hf
      obtain ⟨r320, h_320, hf⟩ := gx_bs hf
      refine lc_appoint (pc := 320) g (M := 900) ⟨(Nat.le_of_ble_eq_true rfl), (Nat.le_of_ble_eq_true rfl)⟩ hst k_320 h_320 (.refl _) (.refl _) ⟨(Nat.le_of_ble_eq_true rfl), (Nat.le_of_ble_eq_true rfl)⟩ (Nat.le_of_ble_eq_true rfl) dL_does_320 ?_
      obtain ⟨h_k, hf⟩ := gx_ck hf
      exact hE _ _ _ _ hf h_k dL_does_323 rfl
set_option maxRecDepth 100000 in
set_option maxHeartbeats 8000000 in
theorem tL_does_324 {D : va_G} {t : Nat → ClassId} {aa : gx_AA} {l : Launch} {J : gx_J} {ad : Nat → Nat} {rs : va_W} {q : (Int32 × LwS)} (hst : l.stackTraces = false) (hxl : xL aa < 2 ^ 31) (g : gx_G D t (gx_E0 aa) l ({ frames := 40, cells := 900, slots := 5400, locals := 900 }) cL_does RL 12 J) (hE : ∀ (v : Int32) (σ : LwS) (pc : Nat) (L : List (Nat × Value)), some (v, σ) = some q → σ.2 ≤ 900 → decode cL_does pc = .ok (.ireturn, 1) → narrow .int (.int v) = .int v → J σ.2 (6 * σ.2) (kW aa ad t σ.1 rs) pc L [.int v])  : ∀ (σ : LwS) (v4 : Int32), fL_does_324 aa σ v4 = some q → J σ.2 (6 * σ.2) (kW aa ad t σ.1 rs) 324 [(3, .ref (ad 0)), (4, .int v4)] [] := by
  intro σ v4 hf
  unfold fL_does_324 at hf
  refine j_aload_n (pc := 324) g 0 dL_does_324 rfl ?_
  refine j_iload (pc := 325) g 1 dL_does_325 rfl ?_
  obtain ⟨k_327, hf⟩ := gx_ck hf
  obtain ⟨r327, h_327, hf⟩ := gx_bs hf
  refine lc_promote (pc := 327) g (M := 900) ⟨(Nat.le_of_ble_eq_true rfl), (Nat.le_of_ble_eq_true rfl)⟩ hst k_327 h_327 (.refl _) (.refl _) ⟨(Nat.le_of_ble_eq_true rfl), (Nat.le_of_ble_eq_true rfl)⟩ (Nat.le_of_ble_eq_true rfl) dL_does_327 ?_
  obtain ⟨h_k, hf⟩ := gx_ck hf
  exact hE _ _ _ _ hf h_k dL_does_330 rfl
set_option maxRecDepth 100000 in
set_option maxHeartbeats 8000000 in
theorem tL_does_331 {D : va_G} {t : Nat → ClassId} {aa : gx_AA} {l : Launch} {J : gx_J} {ad : Nat → Nat} {rs : va_W} {q : (Int32 × LwS)} (hst : l.stackTraces = false) (hxl : xL aa < 2 ^ 31) (g : gx_G D t (gx_E0 aa) l ({ frames := 40, cells := 900, slots := 5400, locals := 900 }) cL_does RL 12 J) (hE : ∀ (v : Int32) (σ : LwS) (pc : Nat) (L : List (Nat × Value)), some (v, σ) = some q → σ.2 ≤ 900 → decode cL_does pc = .ok (.ireturn, 1) → narrow .int (.int v) = .int v → J σ.2 (6 * σ.2) (kW aa ad t σ.1 rs) pc L [.int v])  : ∀ (σ : LwS) (v4 : Int32) (v5 : Int32), fL_does_331 aa σ v4 v5 = some q → J σ.2 (6 * σ.2) (kW aa ad t σ.1 rs) 331 [(3, .ref (ad 0)), (4, .int v4), (5, .int v5)] [] := by
  intro σ v4 v5 hf
  unfold fL_does_331 at hf
  refine j_aload_n (pc := 331) g 0 dL_does_331 rfl ?_
  refine j_iload (pc := 332) g 1 dL_does_332 rfl ?_
  refine j_iload (pc := 334) g 2 dL_does_334 rfl ?_
  obtain ⟨k_336, hf⟩ := gx_ck hf
  obtain ⟨r336, h_336, hf⟩ := gx_bs hf
  refine lc_transfer (pc := 336) g (M := 900) ⟨(Nat.le_of_ble_eq_true rfl), (Nat.le_of_ble_eq_true rfl)⟩ hst k_336 h_336 (.refl _) (.refl _) ⟨(Nat.le_of_ble_eq_true rfl), (Nat.le_of_ble_eq_true rfl)⟩ (Nat.le_of_ble_eq_true rfl) dL_does_336 ?_
  obtain ⟨h_k, hf⟩ := gx_ck hf
  exact hE _ _ _ _ hf h_k dL_does_339 rfl
set_option maxRecDepth 100000 in
set_option maxHeartbeats 8000000 in
theorem tL_does_340 {D : va_G} {t : Nat → ClassId} {aa : gx_AA} {l : Launch} {J : gx_J} {ad : Nat → Nat} {rs : va_W} {q : (Int32 × LwS)} (hst : l.stackTraces = false) (hxl : xL aa < 2 ^ 31) (g : gx_G D t (gx_E0 aa) l ({ frames := 40, cells := 900, slots := 5400, locals := 900 }) cL_does RL 12 J) (hE : ∀ (v : Int32) (σ : LwS) (pc : Nat) (L : List (Nat × Value)), some (v, σ) = some q → σ.2 ≤ 900 → decode cL_does pc = .ok (.ireturn, 1) → narrow .int (.int v) = .int v → J σ.2 (6 * σ.2) (kW aa ad t σ.1 rs) pc L [.int v])  : ∀ (σ : LwS) (v4 : Int32), fL_does_340 aa σ v4 = some q → J σ.2 (6 * σ.2) (kW aa ad t σ.1 rs) 340 [(3, .ref (ad 0)), (4, .int v4)] [] := by
  intro σ v4 hf
  unfold fL_does_340 at hf
  refine j_aload_n (pc := 340) g 0 dL_does_340 rfl ?_
  refine j_iload (pc := 341) g 1 dL_does_341 rfl ?_
  obtain ⟨k_343, hf⟩ := gx_ck hf
  obtain ⟨r343, h_343, hf⟩ := gx_bs hf
  refine lc_dismiss (pc := 343) g (M := 900) ⟨(Nat.le_of_ble_eq_true rfl), (Nat.le_of_ble_eq_true rfl)⟩ hst k_343 h_343 (.refl _) (.refl _) ⟨(Nat.le_of_ble_eq_true rfl), (Nat.le_of_ble_eq_true rfl)⟩ (Nat.le_of_ble_eq_true rfl) dL_does_343 ?_
  obtain ⟨h_k, hf⟩ := gx_ck hf
  exact hE _ _ _ _ hf h_k dL_does_346 rfl
set_option maxRecDepth 100000 in
set_option maxHeartbeats 8000000 in
theorem tL_does_347 {D : va_G} {t : Nat → ClassId} {aa : gx_AA} {l : Launch} {J : gx_J} {ad : Nat → Nat} {rs : va_W} {q : (Int32 × LwS)} (hst : l.stackTraces = false) (hxl : xL aa < 2 ^ 31) (g : gx_G D t (gx_E0 aa) l ({ frames := 40, cells := 900, slots := 5400, locals := 900 }) cL_does RL 12 J) (hE : ∀ (v : Int32) (σ : LwS) (pc : Nat) (L : List (Nat × Value)), some (v, σ) = some q → σ.2 ≤ 900 → decode cL_does pc = .ok (.ireturn, 1) → narrow .int (.int v) = .int v → J σ.2 (6 * σ.2) (kW aa ad t σ.1 rs) pc L [.int v])  : ∀ (σ : LwS) (v7 : Int32) (v10 : Int32) (v11 : Int32), fL_does_347 aa σ v7 v10 v11 = some q → J σ.2 (6 * σ.2) (kW aa ad t σ.1 rs) 347 [(3, .ref (ad 0)), (7, .int v7), (10, .int v10), (11, .int v11)] [] := by
  intro σ v7 v10 v11 hf
  unfold fL_does_347 at hf
  refine j_aload_n (pc := 347) g 0 dL_does_347 rfl ?_
  refine j_iload (pc := 348) g 2 dL_does_348 rfl ?_
  refine j_iload (pc := 350) g 3 dL_does_350 rfl ?_
  refine j_iload (pc := 352) g 1 dL_does_352 rfl ?_
  refine j_bipush (v := 101) (pc := 354) g dL_does_354 (by decide) ?_
  refine j_irem (pc := 356) g dL_does_356 (by decide) ?_
  obtain ⟨k_357, hf⟩ := gx_ck hf
  obtain ⟨r357, h_357, hf⟩ := gx_bs hf
  refine lc_define (pc := 357) g (M := 900) ⟨(Nat.le_of_ble_eq_true rfl), (Nat.le_of_ble_eq_true rfl)⟩ hst k_357 h_357 (.refl _) (.refl _) ⟨(Nat.le_of_ble_eq_true rfl), (Nat.le_of_ble_eq_true rfl)⟩ (Nat.le_of_ble_eq_true rfl) dL_does_357 ?_
  obtain ⟨h_k, hf⟩ := gx_ck hf
  exact hE _ _ _ _ hf h_k dL_does_360 rfl
set_option maxRecDepth 100000 in
set_option maxHeartbeats 8000000 in
theorem tL_does_361 {D : va_G} {t : Nat → ClassId} {aa : gx_AA} {l : Launch} {J : gx_J} {ad : Nat → Nat} {rs : va_W} {q : (Int32 × LwS)} (hst : l.stackTraces = false) (hxl : xL aa < 2 ^ 31) (g : gx_G D t (gx_E0 aa) l ({ frames := 40, cells := 900, slots := 5400, locals := 900 }) cL_does RL 12 J) (hE : ∀ (v : Int32) (σ : LwS) (pc : Nat) (L : List (Nat × Value)), some (v, σ) = some q → σ.2 ≤ 900 → decode cL_does pc = .ok (.ireturn, 1) → narrow .int (.int v) = .int v → J σ.2 (6 * σ.2) (kW aa ad t σ.1 rs) pc L [.int v])  : ∀ (σ : LwS) (v10 : Int32) (v11 : Int32), fL_does_361 aa σ v10 v11 = some q → J σ.2 (6 * σ.2) (kW aa ad t σ.1 rs) 361 [(3, .ref (ad 0)), (10, .int v10), (11, .int v11)] [] := by
  intro σ v10 v11 hf
  unfold fL_does_361 at hf
  refine j_aload_n (pc := 361) g 0 dL_does_361 rfl ?_
  refine j_iload (pc := 362) g 1 dL_does_362 rfl ?_
  refine j_iload (pc := 364) g 2 dL_does_364 rfl ?_
  obtain ⟨k_366, hf⟩ := gx_ck hf
  obtain ⟨r366, h_366, hf⟩ := gx_bs hf
  refine lc_erase (pc := 366) g (M := 900) ⟨(Nat.le_of_ble_eq_true rfl), (Nat.le_of_ble_eq_true rfl)⟩ hst k_366 h_366 (.refl _) (.refl _) ⟨(Nat.le_of_ble_eq_true rfl), (Nat.le_of_ble_eq_true rfl)⟩ (Nat.le_of_ble_eq_true rfl) dL_does_366 ?_
  obtain ⟨h_k, hf⟩ := gx_ck hf
  exact hE _ _ _ _ hf h_k dL_does_369 rfl
set_option maxRecDepth 100000 in
set_option maxHeartbeats 8000000 in
theorem tL_does_370 {D : va_G} {t : Nat → ClassId} {aa : gx_AA} {l : Launch} {J : gx_J} {ad : Nat → Nat} {rs : va_W} {q : (Int32 × LwS)} (hst : l.stackTraces = false) (hxl : xL aa < 2 ^ 31) (g : gx_G D t (gx_E0 aa) l ({ frames := 40, cells := 900, slots := 5400, locals := 900 }) cL_does RL 12 J) (hE : ∀ (v : Int32) (σ : LwS) (pc : Nat) (L : List (Nat × Value)), some (v, σ) = some q → σ.2 ≤ 900 → decode cL_does pc = .ok (.ireturn, 1) → narrow .int (.int v) = .int v → J σ.2 (6 * σ.2) (kW aa ad t σ.1 rs) pc L [.int v])  : ∀ (σ : LwS) (v6 : Int32), fL_does_370 aa σ v6 = some q → J σ.2 (6 * σ.2) (kW aa ad t σ.1 rs) 370 [(3, .ref (ad 0)), (6, .int v6)] [] := by
  intro σ v6 hf
  unfold fL_does_370 at hf
  refine j_aload_n (pc := 370) g 0 dL_does_370 rfl ?_
  refine j_iload (pc := 371) g 1 dL_does_371 rfl ?_
  obtain ⟨k_373, hf⟩ := gx_ck hf
  obtain ⟨r373, h_373, hf⟩ := gx_bs hf
  refine lc_passHours (pc := 373) g (M := 900) ⟨(Nat.le_of_ble_eq_true rfl), (Nat.le_of_ble_eq_true rfl)⟩ hst k_373 h_373 (.refl _) (.refl _) ⟨(Nat.le_of_ble_eq_true rfl), (Nat.le_of_ble_eq_true rfl)⟩ (Nat.le_of_ble_eq_true rfl) dL_does_373 ?_
  obtain ⟨h_k, hf⟩ := gx_ck hf
  exact hE _ _ _ _ hf h_k dL_does_376 rfl
set_option maxRecDepth 100000 in
set_option maxHeartbeats 8000000 in
theorem tL_does_521 {D : va_G} {t : Nat → ClassId} {aa : gx_AA} {l : Launch} {J : gx_J} {ad : Nat → Nat} {rs : va_W} {q : (Int32 × LwS)} (hst : l.stackTraces = false) (hxl : xL aa < 2 ^ 31) (g : gx_G D t (gx_E0 aa) l ({ frames := 40, cells := 900, slots := 5400, locals := 900 }) cL_does RL 12 J) (hE : ∀ (v : Int32) (σ : LwS) (pc : Nat) (L : List (Nat × Value)), some (v, σ) = some q → σ.2 ≤ 900 → decode cL_does pc = .ok (.ireturn, 1) → narrow .int (.int v) = .int v → J σ.2 (6 * σ.2) (kW aa ad t σ.1 rs) pc L [.int v])  : ∀ (σ : LwS) (v4 : Int32) (v5 : Int32) (v7 : Int32) (v8 : Int32), fL_does_521 aa σ v4 v5 v7 v8 = some q → J σ.2 (6 * σ.2) (kW aa ad t σ.1 rs) 521 [(3, .ref (ad 0)), (4, .int v4), (5, .int v5), (7, .int v7), (8, .int v8)] [] := by
  intro σ v4 v5 v7 v8 hf
  unfold fL_does_521 at hf
  refine j_aload_n (pc := 521) g 0 dL_does_521 rfl ?_
  refine j_iload (pc := 522) g 2 dL_does_522 rfl ?_
  refine j_iload (pc := 524) g 1 dL_does_524 rfl ?_
  refine j_iload (pc := 526) g 3 dL_does_526 rfl ?_
  refine j_bipush (v := 29) (pc := 528) g dL_does_528 (by decide) ?_
  refine j_irem (pc := 530) g dL_does_530 (by decide) ?_
  refine j_if_ne (tgt := 539) (pc := 531) g dL_does_531 (by decide) (fun c_531 => ?_) (fun c_531 => ?_)
  · have hf := gx_if c_531 hf
    refine j_iload (pc := 539) g 3 dL_does_539 rfl ?_
    refine j_iconst (v := 2) (pc := 541) g dL_does_541 (by decide) ?_
    refine j_irem (pc := 542) g dL_does_542 (by decide) ?_
    refine j_if_ne (tgt := 554) (pc := 543) g dL_does_543 (by decide) (fun c_543 => ?_) (fun c_543 => ?_)
    · have hf := gx_if c_543 hf
      refine j_iload (pc := 554) g 4 dL_does_554 rfl ?_
      refine j_bipush (v := 60) (pc := 556) g dL_does_556 (by decide) ?_
      refine j_irem (pc := 558) g dL_does_558 (by decide) ?_
      obtain ⟨k_559, hf⟩ := gx_ck hf
      obtain ⟨r559, h_559, hf⟩ := gx_bs hf
      refine lc_issue (pc := 559) g (M := 900) ⟨(Nat.le_of_ble_eq_true rfl), (Nat.le_of_ble_eq_true rfl)⟩ hst k_559 h_559 (.refl _) (.refl _) ⟨(Nat.le_of_ble_eq_true rfl), (Nat.le_of_ble_eq_true rfl)⟩ (Nat.le_of_ble_eq_true rfl) dL_does_559 ?_
      obtain ⟨h_k, hf⟩ := gx_ck hf
      exact hE _ _ _ _ hf h_k dL_does_562 rfl
    · have hf := gx_it c_543 hf
      refine j_iload (pc := 546) g 4 dL_does_546 rfl ?_
      refine j_bipush (v := 101) (pc := 548) g dL_does_548 (by decide) ?_
      refine j_irem (pc := 550) g dL_does_550 (by decide) ?_
      refine j_goto (tgt := 559) (pc := 551) g dL_does_551 (by decide) ?_
      obtain ⟨k_559, hf⟩ := gx_ck hf
      obtain ⟨r559, h_559, hf⟩ := gx_bs hf
      refine lc_issue (pc := 559) g (M := 900) ⟨(Nat.le_of_ble_eq_true rfl), (Nat.le_of_ble_eq_true rfl)⟩ hst k_559 h_559 (.refl _) (.refl _) ⟨(Nat.le_of_ble_eq_true rfl), (Nat.le_of_ble_eq_true rfl)⟩ (Nat.le_of_ble_eq_true rfl) dL_does_559 ?_
      obtain ⟨h_k, hf⟩ := gx_ck hf
      exact hE _ _ _ _ hf h_k dL_does_562 rfl
  · have hf := gx_it c_531 hf
    refine j_bipush (v := 101) (pc := 534) g dL_does_534 (by decide) ?_
    refine j_goto (tgt := 559) (pc := 536) g dL_does_536 (by decide) ?_
    obtain ⟨k_559, hf⟩ := gx_ck hf
    obtain ⟨r559, h_559, hf⟩ := gx_bs hf
    refine lc_issue (pc := 559) g (M := 900) ⟨(Nat.le_of_ble_eq_true rfl), (Nat.le_of_ble_eq_true rfl)⟩ hst k_559 h_559 (.refl _) (.refl _) ⟨(Nat.le_of_ble_eq_true rfl), (Nat.le_of_ble_eq_true rfl)⟩ (Nat.le_of_ble_eq_true rfl) dL_does_559 ?_
    obtain ⟨h_k, hf⟩ := gx_ck hf
    exact hE _ _ _ _ hf h_k dL_does_562 rfl
set_option maxRecDepth 100000 in
set_option maxHeartbeats 8000000 in
theorem tL_does_55 {D : va_G} {t : Nat → ClassId} {aa : gx_AA} {l : Launch} {J : gx_J} {ad : Nat → Nat} {rs : va_W} {q : (Int32 × LwS)} (hst : l.stackTraces = false) (hxl : xL aa < 2 ^ 31) (g : gx_G D t (gx_E0 aa) l ({ frames := 40, cells := 900, slots := 5400, locals := 900 }) cL_does RL 12 J) (hE : ∀ (v : Int32) (σ : LwS) (pc : Nat) (L : List (Nat × Value)), some (v, σ) = some q → σ.2 ≤ 900 → decode cL_does pc = .ok (.ireturn, 1) → narrow .int (.int v) = .int v → J σ.2 (6 * σ.2) (kW aa ad t σ.1 rs) pc L [.int v])  : ∀ (σ : LwS) (v2 : Int32) (v4 : Int32) (v5 : Int32) (v6 : Int32) (v7 : Int32) (v8 : Int32) (v9 : Int32) (v10 : Int32), fL_does_55 aa σ v2 v4 v5 v6 v7 v8 v9 v10 = some q → J σ.2 (6 * σ.2) (kW aa ad t σ.1 rs) 55 [(2, .int v2), (3, .ref (ad 0)), (4, .int v4), (5, .int v5), (6, .int v6), (7, .int v7), (8, .int v8), (9, .int v9), (10, .int v10)] [] := by
  intro σ v2 v4 v5 v6 v7 v8 v9 v10 hf
  unfold fL_does_55 at hf
  refine j_bipush (v := 97) (pc := 55) g dL_does_55 (by decide) ?_
  refine j_iload (pc := 57) g 6 dL_does_57 rfl ?_
  refine j_iconst (v := 5) (pc := 59) g dL_does_59 (by decide) ?_
  refine j_idiv (pc := 60) g dL_does_60 (by decide) ?_
  refine j_iconst (v := 5) (pc := 61) g dL_does_61 (by decide) ?_
  refine j_irem (pc := 62) g dL_does_62 (by decide) ?_
  refine j_iadd (pc := 63) g dL_does_63 ?_
  refine j_i2c (pc := 64) g dL_does_64 ?_
  refine j_istore (L' := [(11, .int ((((97 : Int32) + ((v8 / (5 : Int32)) - (v8 / (5 : Int32)) / (5 : Int32) * (5 : Int32))).toUInt32 % 65536).toInt32)), (2, .int v2), (3, .ref (ad 0)), (4, .int v4), (5, .int v5), (6, .int v6), (7, .int v7), (8, .int v8), (9, .int v9), (10, .int v10)]) (pc := 65) g dL_does_65 (Nat.le_of_ble_eq_true rfl) rfl ?_
  refine j_iload_n (pc := 67) g 1 dL_does_67 rfl ?_
  obtain ⟨h_68, hf⟩ := gx_ck hf
  obtain ⟨j9, hj9, e9⟩ := lk_in42 h_68
  rw [show v2.toNatClampNeg = j9 by rw [e9]; exact nI_clamp (by omega)] at hf
  rw [e9]
  clear e9
  match j9, hj9 with
  | 0, _ =>
    rw [if_pos (by decide)] at hf
    refine j_tableIn (off := 184) (tgt := 252) (pc := 68) g dL_does_68 (by decide) (by decide) rfl (by decide) ?_
    refine j_sub (pc := 252) g [2, 3, 6, 7, 8] rfl ?_
    exact tL_does_252 hst hxl g hE σ v4 v7 v8 v9 hf
  | 1, _ =>
    rw [if_pos (by decide)] at hf
    refine j_tableIn (off := 184) (tgt := 252) (pc := 68) g dL_does_68 (by decide) (by decide) rfl (by decide) ?_
    refine j_sub (pc := 252) g [2, 3, 6, 7, 8] rfl ?_
    exact tL_does_252 hst hxl g hE σ v4 v7 v8 v9 hf
  | 2, _ =>
    rw [if_pos (by decide)] at hf
    refine j_tableIn (off := 184) (tgt := 252) (pc := 68) g dL_does_68 (by decide) (by decide) rfl (by decide) ?_
    refine j_sub (pc := 252) g [2, 3, 6, 7, 8] rfl ?_
    exact tL_does_252 hst hxl g hE σ v4 v7 v8 v9 hf
  | 3, _ =>
    rw [if_pos (by decide)] at hf
    refine j_tableIn (off := 184) (tgt := 252) (pc := 68) g dL_does_68 (by decide) (by decide) rfl (by decide) ?_
    refine j_sub (pc := 252) g [2, 3, 6, 7, 8] rfl ?_
    exact tL_does_252 hst hxl g hE σ v4 v7 v8 v9 hf
  | 4, _ =>
    rw [if_pos (by decide)] at hf
    refine j_tableIn (off := 184) (tgt := 252) (pc := 68) g dL_does_68 (by decide) (by decide) rfl (by decide) ?_
    refine j_sub (pc := 252) g [2, 3, 6, 7, 8] rfl ?_
    exact tL_does_252 hst hxl g hE σ v4 v7 v8 v9 hf
  | 5, _ =>
    rw [if_pos (by decide)] at hf
    refine j_tableIn (off := 184) (tgt := 252) (pc := 68) g dL_does_68 (by decide) (by decide) rfl (by decide) ?_
    refine j_sub (pc := 252) g [2, 3, 6, 7, 8] rfl ?_
    exact tL_does_252 hst hxl g hE σ v4 v7 v8 v9 hf
  | 6, _ =>
    rw [if_pos (by decide)] at hf
    refine j_tableIn (off := 184) (tgt := 252) (pc := 68) g dL_does_68 (by decide) (by decide) rfl (by decide) ?_
    refine j_sub (pc := 252) g [2, 3, 6, 7, 8] rfl ?_
    exact tL_does_252 hst hxl g hE σ v4 v7 v8 v9 hf
  | 7, _ =>
    rw [if_neg (by decide), if_pos (by decide)] at hf
    refine j_tableIn (off := 256) (tgt := 324) (pc := 68) g dL_does_68 (by decide) (by decide) rfl (by decide) ?_
    refine j_sub (pc := 324) g [2, 3] rfl ?_
    exact tL_does_324 hst hxl g hE σ v4 hf
  | 8, _ =>
    rw [if_neg (by decide), if_pos (by decide)] at hf
    refine j_tableIn (off := 256) (tgt := 324) (pc := 68) g dL_does_68 (by decide) (by decide) rfl (by decide) ?_
    refine j_sub (pc := 324) g [2, 3] rfl ?_
    exact tL_does_324 hst hxl g hE σ v4 hf
  | 9, _ =>
    rw [if_neg (by decide), if_neg (by decide), if_pos (by decide)] at hf
    refine j_tableIn (off := 263) (tgt := 331) (pc := 68) g dL_does_68 (by decide) (by decide) rfl (by decide) ?_
    refine j_sub (pc := 331) g [2, 3, 4] rfl ?_
    exact tL_does_331 hst hxl g hE σ v4 v5 hf
  | 10, _ =>
    rw [if_neg (by decide), if_neg (by decide), if_pos (by decide)] at hf
    refine j_tableIn (off := 263) (tgt := 331) (pc := 68) g dL_does_68 (by decide) (by decide) rfl (by decide) ?_
    refine j_sub (pc := 331) g [2, 3, 4] rfl ?_
    exact tL_does_331 hst hxl g hE σ v4 v5 hf
  | 11, _ =>
    rw [if_neg (by decide), if_neg (by decide), if_pos (by decide)] at hf
    refine j_tableIn (off := 263) (tgt := 331) (pc := 68) g dL_does_68 (by decide) (by decide) rfl (by decide) ?_
    refine j_sub (pc := 331) g [2, 3, 4] rfl ?_
    exact tL_does_331 hst hxl g hE σ v4 v5 hf
  | 12, _ =>
    rw [if_neg (by decide), if_neg (by decide), if_pos (by decide)] at hf
    refine j_tableIn (off := 263) (tgt := 331) (pc := 68) g dL_does_68 (by decide) (by decide) rfl (by decide) ?_
    refine j_sub (pc := 331) g [2, 3, 4] rfl ?_
    exact tL_does_331 hst hxl g hE σ v4 v5 hf
  | 13, _ =>
    rw [if_neg (by decide), if_neg (by decide), if_pos (by decide)] at hf
    refine j_tableIn (off := 263) (tgt := 331) (pc := 68) g dL_does_68 (by decide) (by decide) rfl (by decide) ?_
    refine j_sub (pc := 331) g [2, 3, 4] rfl ?_
    exact tL_does_331 hst hxl g hE σ v4 v5 hf
  | 14, _ =>
    rw [if_neg (by decide), if_neg (by decide), if_neg (by decide), if_pos (by decide)] at hf
    refine j_tableIn (off := 272) (tgt := 340) (pc := 68) g dL_does_68 (by decide) (by decide) rfl (by decide) ?_
    refine j_sub (pc := 340) g [2, 3] rfl ?_
    exact tL_does_340 hst hxl g hE σ v4 hf
  | 15, _ =>
    rw [if_neg (by decide), if_neg (by decide), if_neg (by decide), if_pos (by decide)] at hf
    refine j_tableIn (off := 272) (tgt := 340) (pc := 68) g dL_does_68 (by decide) (by decide) rfl (by decide) ?_
    refine j_sub (pc := 340) g [2, 3] rfl ?_
    exact tL_does_340 hst hxl g hE σ v4 hf
  | 16, _ =>
    rw [if_neg (by decide), if_neg (by decide), if_neg (by decide), if_neg (by decide), if_pos (by decide)] at hf
    refine j_tableIn (off := 453) (tgt := 521) (pc := 68) g dL_does_68 (by decide) (by decide) rfl (by decide) ?_
    refine j_sub (pc := 521) g [2, 3, 4, 6, 7] rfl ?_
    exact tL_does_521 hst hxl g hE σ v4 v5 v7 v8 hf
  | 17, _ =>
    rw [if_neg (by decide), if_neg (by decide), if_neg (by decide), if_neg (by decide), if_pos (by decide)] at hf
    refine j_tableIn (off := 453) (tgt := 521) (pc := 68) g dL_does_68 (by decide) (by decide) rfl (by decide) ?_
    refine j_sub (pc := 521) g [2, 3, 4, 6, 7] rfl ?_
    exact tL_does_521 hst hxl g hE σ v4 v5 v7 v8 hf
  | 18, _ =>
    rw [if_neg (by decide), if_neg (by decide), if_neg (by decide), if_neg (by decide), if_pos (by decide)] at hf
    refine j_tableIn (off := 453) (tgt := 521) (pc := 68) g dL_does_68 (by decide) (by decide) rfl (by decide) ?_
    refine j_sub (pc := 521) g [2, 3, 4, 6, 7] rfl ?_
    exact tL_does_521 hst hxl g hE σ v4 v5 v7 v8 hf
  | 19, _ =>
    rw [if_neg (by decide), if_neg (by decide), if_neg (by decide), if_neg (by decide), if_pos (by decide)] at hf
    refine j_tableIn (off := 453) (tgt := 521) (pc := 68) g dL_does_68 (by decide) (by decide) rfl (by decide) ?_
    refine j_sub (pc := 521) g [2, 3, 4, 6, 7] rfl ?_
    exact tL_does_521 hst hxl g hE σ v4 v5 v7 v8 hf
  | 20, _ =>
    rw [if_neg (by decide), if_neg (by decide), if_neg (by decide), if_neg (by decide), if_pos (by decide)] at hf
    refine j_tableIn (off := 453) (tgt := 521) (pc := 68) g dL_does_68 (by decide) (by decide) rfl (by decide) ?_
    refine j_sub (pc := 521) g [2, 3, 4, 6, 7] rfl ?_
    exact tL_does_521 hst hxl g hE σ v4 v5 v7 v8 hf
  | 21, _ =>
    rw [if_neg (by decide), if_neg (by decide), if_neg (by decide), if_neg (by decide), if_pos (by decide)] at hf
    refine j_tableIn (off := 453) (tgt := 521) (pc := 68) g dL_does_68 (by decide) (by decide) rfl (by decide) ?_
    refine j_sub (pc := 521) g [2, 3, 4, 6, 7] rfl ?_
    exact tL_does_521 hst hxl g hE σ v4 v5 v7 v8 hf
  | 22, _ =>
    rw [if_neg (by decide), if_neg (by decide), if_neg (by decide), if_neg (by decide), if_pos (by decide)] at hf
    refine j_tableIn (off := 453) (tgt := 521) (pc := 68) g dL_does_68 (by decide) (by decide) rfl (by decide) ?_
    refine j_sub (pc := 521) g [2, 3, 4, 6, 7] rfl ?_
    exact tL_does_521 hst hxl g hE σ v4 v5 v7 v8 hf
  | 23, _ =>
    rw [if_neg (by decide), if_neg (by decide), if_neg (by decide), if_neg (by decide), if_pos (by decide)] at hf
    refine j_tableIn (off := 453) (tgt := 521) (pc := 68) g dL_does_68 (by decide) (by decide) rfl (by decide) ?_
    refine j_sub (pc := 521) g [2, 3, 4, 6, 7] rfl ?_
    exact tL_does_521 hst hxl g hE σ v4 v5 v7 v8 hf
  | 24, _ =>
    rw [if_neg (by decide), if_neg (by decide), if_neg (by decide), if_neg (by decide), if_pos (by decide)] at hf
    refine j_tableIn (off := 453) (tgt := 521) (pc := 68) g dL_does_68 (by decide) (by decide) rfl (by decide) ?_
    refine j_sub (pc := 521) g [2, 3, 4, 6, 7] rfl ?_
    exact tL_does_521 hst hxl g hE σ v4 v5 v7 v8 hf
  | 25, _ =>
    rw [if_neg (by decide), if_neg (by decide), if_neg (by decide), if_neg (by decide), if_pos (by decide)] at hf
    refine j_tableIn (off := 453) (tgt := 521) (pc := 68) g dL_does_68 (by decide) (by decide) rfl (by decide) ?_
    refine j_sub (pc := 521) g [2, 3, 4, 6, 7] rfl ?_
    exact tL_does_521 hst hxl g hE σ v4 v5 v7 v8 hf
  | 26, _ =>
    rw [if_neg (by decide), if_neg (by decide), if_neg (by decide), if_neg (by decide), if_pos (by decide)] at hf
    refine j_tableIn (off := 453) (tgt := 521) (pc := 68) g dL_does_68 (by decide) (by decide) rfl (by decide) ?_
    refine j_sub (pc := 521) g [2, 3, 4, 6, 7] rfl ?_
    exact tL_does_521 hst hxl g hE σ v4 v5 v7 v8 hf
  | 27, _ =>
    rw [if_neg (by decide), if_neg (by decide), if_neg (by decide), if_neg (by decide), if_neg (by decide), if_pos (by decide)] at hf
    refine j_tableIn (off := 279) (tgt := 347) (pc := 68) g dL_does_68 (by decide) (by decide) rfl (by decide) ?_
    refine j_sub (pc := 347) g [2, 6, 9, 0] rfl ?_
    exact tL_does_347 hst hxl g hE σ v7 v10 ((((97 : Int32) + ((v8 / (5 : Int32)) - (v8 / (5 : Int32)) / (5 : Int32) * (5 : Int32))).toUInt32 % 65536).toInt32) hf
  | 28, _ =>
    rw [if_neg (by decide), if_neg (by decide), if_neg (by decide), if_neg (by decide), if_neg (by decide), if_pos (by decide)] at hf
    refine j_tableIn (off := 279) (tgt := 347) (pc := 68) g dL_does_68 (by decide) (by decide) rfl (by decide) ?_
    refine j_sub (pc := 347) g [2, 6, 9, 0] rfl ?_
    exact tL_does_347 hst hxl g hE σ v7 v10 ((((97 : Int32) + ((v8 / (5 : Int32)) - (v8 / (5 : Int32)) / (5 : Int32) * (5 : Int32))).toUInt32 % 65536).toInt32) hf
  | 29, _ =>
    rw [if_neg (by decide), if_neg (by decide), if_neg (by decide), if_neg (by decide), if_neg (by decide), if_pos (by decide)] at hf
    refine j_tableIn (off := 279) (tgt := 347) (pc := 68) g dL_does_68 (by decide) (by decide) rfl (by decide) ?_
    refine j_sub (pc := 347) g [2, 6, 9, 0] rfl ?_
    exact tL_does_347 hst hxl g hE σ v7 v10 ((((97 : Int32) + ((v8 / (5 : Int32)) - (v8 / (5 : Int32)) / (5 : Int32) * (5 : Int32))).toUInt32 % 65536).toInt32) hf
  | 30, _ =>
    rw [if_neg (by decide), if_neg (by decide), if_neg (by decide), if_neg (by decide), if_neg (by decide), if_neg (by decide), if_pos (by decide)] at hf
    refine j_tableIn (off := 293) (tgt := 361) (pc := 68) g dL_does_68 (by decide) (by decide) rfl (by decide) ?_
    refine j_sub (pc := 361) g [2, 9, 0] rfl ?_
    exact tL_does_361 hst hxl g hE σ v10 ((((97 : Int32) + ((v8 / (5 : Int32)) - (v8 / (5 : Int32)) / (5 : Int32) * (5 : Int32))).toUInt32 % 65536).toInt32) hf
  | 31, _ =>
    rw [if_neg (by decide), if_neg (by decide), if_neg (by decide), if_neg (by decide), if_neg (by decide), if_neg (by decide), if_neg (by decide), if_pos (by decide)] at hf
    refine j_tableIn (off := 302) (tgt := 370) (pc := 68) g dL_does_68 (by decide) (by decide) rfl (by decide) ?_
    refine j_sub (pc := 370) g [2, 5] rfl ?_
    exact tL_does_370 hst hxl g hE σ v6 hf
  | 32, _ =>
    rw [if_neg (by decide), if_neg (by decide), if_neg (by decide), if_neg (by decide), if_neg (by decide), if_neg (by decide), if_neg (by decide), if_pos (by decide)] at hf
    refine j_tableIn (off := 302) (tgt := 370) (pc := 68) g dL_does_68 (by decide) (by decide) rfl (by decide) ?_
    refine j_sub (pc := 370) g [2, 5] rfl ?_
    exact tL_does_370 hst hxl g hE σ v6 hf
  | 33, _ =>
    rw [if_neg (by decide), if_neg (by decide), if_neg (by decide), if_neg (by decide), if_neg (by decide), if_neg (by decide), if_neg (by decide), if_pos (by decide)] at hf
    refine j_tableIn (off := 302) (tgt := 370) (pc := 68) g dL_does_68 (by decide) (by decide) rfl (by decide) ?_
    refine j_sub (pc := 370) g [2, 5] rfl ?_
    exact tL_does_370 hst hxl g hE σ v6 hf
  | 34, _ =>
    rw [if_neg (by decide), if_neg (by decide), if_neg (by decide), if_neg (by decide), if_neg (by decide), if_neg (by decide), if_neg (by decide), if_pos (by decide)] at hf
    refine j_tableIn (off := 302) (tgt := 370) (pc := 68) g dL_does_68 (by decide) (by decide) rfl (by decide) ?_
    refine j_sub (pc := 370) g [2, 5] rfl ?_
    exact tL_does_370 hst hxl g hE σ v6 hf
  | 35, _ =>
    rw [if_neg (by decide), if_neg (by decide), if_neg (by decide), if_neg (by decide), if_neg (by decide), if_neg (by decide), if_neg (by decide), if_pos (by decide)] at hf
    refine j_tableIn (off := 302) (tgt := 370) (pc := 68) g dL_does_68 (by decide) (by decide) rfl (by decide) ?_
    refine j_sub (pc := 370) g [2, 5] rfl ?_
    exact tL_does_370 hst hxl g hE σ v6 hf
  | 36, _ =>
    rw [if_neg (by decide), if_neg (by decide), if_neg (by decide), if_neg (by decide), if_neg (by decide), if_neg (by decide), if_neg (by decide), if_pos (by decide)] at hf
    refine j_tableIn (off := 302) (tgt := 370) (pc := 68) g dL_does_68 (by decide) (by decide) rfl (by decide) ?_
    refine j_sub (pc := 370) g [2, 5] rfl ?_
    exact tL_does_370 hst hxl g hE σ v6 hf
  | 37, _ =>
    rw [if_neg (by decide), if_neg (by decide), if_neg (by decide), if_neg (by decide), if_neg (by decide), if_neg (by decide), if_neg (by decide), if_pos (by decide)] at hf
    refine j_tableIn (off := 302) (tgt := 370) (pc := 68) g dL_does_68 (by decide) (by decide) rfl (by decide) ?_
    refine j_sub (pc := 370) g [2, 5] rfl ?_
    exact tL_does_370 hst hxl g hE σ v6 hf
  | 38, _ =>
    rw [if_neg (by decide), if_neg (by decide), if_neg (by decide), if_neg (by decide), if_neg (by decide), if_neg (by decide), if_neg (by decide), if_pos (by decide)] at hf
    refine j_tableIn (off := 302) (tgt := 370) (pc := 68) g dL_does_68 (by decide) (by decide) rfl (by decide) ?_
    refine j_sub (pc := 370) g [2, 5] rfl ?_
    exact tL_does_370 hst hxl g hE σ v6 hf
  | 39, _ =>
    rw [if_neg (by decide), if_neg (by decide), if_neg (by decide), if_neg (by decide), if_neg (by decide), if_neg (by decide), if_neg (by decide), if_pos (by decide)] at hf
    refine j_tableIn (off := 302) (tgt := 370) (pc := 68) g dL_does_68 (by decide) (by decide) rfl (by decide) ?_
    refine j_sub (pc := 370) g [2, 5] rfl ?_
    exact tL_does_370 hst hxl g hE σ v6 hf
  | 40, _ =>
    rw [if_neg (by decide), if_neg (by decide), if_neg (by decide), if_neg (by decide), if_neg (by decide), if_neg (by decide), if_neg (by decide), if_neg (by decide)] at hf
    refine j_tableIn (off := 309) (tgt := 377) (pc := 68) g dL_does_68 (by decide) (by decide) rfl (by decide) ?_
    refine j_sub (pc := 377) g [2, 3, 6, 7, 0] rfl ?_
    exact tL_does_377 hst hxl g hE σ v4 v7 v8 ((((97 : Int32) + ((v8 / (5 : Int32)) - (v8 / (5 : Int32)) / (5 : Int32) * (5 : Int32))).toUInt32 % 65536).toInt32) hf
  | 41, _ =>
    rw [if_neg (by decide), if_neg (by decide), if_neg (by decide), if_neg (by decide), if_neg (by decide), if_neg (by decide), if_neg (by decide), if_neg (by decide)] at hf
    refine j_tableIn (off := 309) (tgt := 377) (pc := 68) g dL_does_68 (by decide) (by decide) rfl (by decide) ?_
    refine j_sub (pc := 377) g [2, 3, 6, 7, 0] rfl ?_
    exact tL_does_377 hst hxl g hE σ v4 v7 v8 ((((97 : Int32) + ((v8 / (5 : Int32)) - (v8 / (5 : Int32)) / (5 : Int32) * (5 : Int32))).toUInt32 % 65536).toInt32) hf
  | m9 + 42, h9 => exact absurd h9 (by omega)
set_option maxRecDepth 100000 in
set_option maxHeartbeats 8000000 in
theorem cL_does_ {D : va_G} {t : Nat → ClassId} {aa : gx_AA} {l : Launch} {ad : Nat → Nat} {rs : va_W} {σ : CS} {p1 : Int32} {p2 : Int32} {p4 : Int32} {p5 : Int32} {p6 : Int32} {q : (Int32 × LwS)} (hst : l.stackTraces = false) (hxl : xL aa < 2 ^ 31) (hf : fL_does aa σ p1 p2 p4 p5 p6 = some q) : gx_CM D t (gx_E0 aa) l yL_does cL_does 12 (some .int) 40 900 900 (6 * 900) [.ref (xB aa), .int p1, .int p2, .ref (ad 0), .int p4, .int p5, .int p6] (kW aa ad t σ rs) (kW aa ad t q.2.1 rs) (some (.int q.1)) := by
  refine gx_intro_mi (by decide) (Nat.le_of_ble_eq_true rfl) (fun J g0 hE0 => ?_)
  have g : gx_G D t (gx_E0 aa) l ({ frames := 40, cells := 900, slots := 5400, locals := 900 }) cL_does RL 12 J := g0
  have hE : ∀ (v : Int32) (σ : LwS) (pc : Nat) (L : List (Nat × Value)), some (v, σ) = some q → σ.2 ≤ 900 → decode cL_does pc = .ok (.ireturn, 1) → narrow .int (.int v) = .int v → J σ.2 (6 * σ.2) (kW aa ad t σ.1 rs) pc L [.int v] := fun v σ pc L h h0 h1 h2 => by cases h; exact j_wid g h0 (Nat.mul_le_mul_left 6 h0) (hE0 pc L h1 h2)
  unfold fL_does at hf
  show J 0 (6 * 0) (kW aa ad t σ rs) 0 [(0, .ref (xB aa)), (1, .int p1), (2, .int p2), (3, .ref (ad 0)), (4, .int p4), (5, .int p5), (6, .int p6)] []
  refine j_aload_n (pc := 0) g 0 dL_does_0 rfl ?_
  refine j_iload_n (pc := 1) g 1 dL_does_1 rfl ?_
  refine j_iconst (v := 4) (pc := 2) g dL_does_2 (by decide) ?_
  refine j_iadd (pc := 3) g dL_does_3 ?_
  refine j_sipush (v := 1000) (pc := 4) g dL_does_4 (by decide) ?_
  obtain ⟨h_7, hf⟩ := gx_ck hf
  refine lc_pick (pc := 7) g (M := 900) ⟨(Nat.le_of_ble_eq_true rfl), (Nat.le_of_ble_eq_true rfl)⟩ hxl h_7 ⟨(Nat.le_of_ble_eq_true rfl), (Nat.le_of_ble_eq_true rfl)⟩ (Nat.le_of_ble_eq_true rfl) dL_does_7 ?_
  refine j_istore (L' := [(7, .int (xpick aa (p1 + (4 : Int32)) (1000 : Int32))), (0, .ref (xB aa)), (1, .int p1), (2, .int p2), (3, .ref (ad 0)), (4, .int p4), (5, .int p5), (6, .int p6)]) (pc := 10) g dL_does_10 (Nat.le_of_ble_eq_true rfl) rfl ?_
  refine j_aload_n (pc := 12) g 1 dL_does_12 rfl ?_
  refine j_iload_n (pc := 13) g 2 dL_does_13 rfl ?_
  refine j_iconst (v := 3) (pc := 14) g dL_does_14 (by decide) ?_
  refine j_iadd (pc := 15) g dL_does_15 ?_
  refine j_sipush (v := 1000) (pc := 16) g dL_does_16 (by decide) ?_
  obtain ⟨h_19, hf⟩ := gx_ck hf
  refine lc_pick (pc := 19) g (M := 900) ⟨(Nat.le_of_ble_eq_true rfl), (Nat.le_of_ble_eq_true rfl)⟩ hxl h_19 ⟨(Nat.le_of_ble_eq_true rfl), (Nat.le_of_ble_eq_true rfl)⟩ (Nat.le_of_ble_eq_true rfl) dL_does_19 ?_
  refine j_istore (L' := [(8, .int (xpick aa (p1 + (3 : Int32)) (1000 : Int32))), (7, .int (xpick aa (p1 + (4 : Int32)) (1000 : Int32))), (0, .ref (xB aa)), (1, .int p1), (2, .int p2), (3, .ref (ad 0)), (4, .int p4), (5, .int p5), (6, .int p6)]) (pc := 22) g dL_does_22 (Nat.le_of_ble_eq_true rfl) rfl ?_
  refine j_aload_n (pc := 24) g 5 dL_does_24 rfl ?_
  refine j_iload (pc := 25) g 6 dL_does_25 rfl ?_
  obtain ⟨k_27, hf⟩ := gx_ck hf
  obtain ⟨r27, h_27, hf⟩ := gx_bs hf
  refine lc_rank (pc := 27) g (M := 900) ⟨(Nat.le_of_ble_eq_true rfl), (Nat.le_of_ble_eq_true rfl)⟩ hst k_27 h_27 (.refl _) (.refl _) ⟨(Nat.le_of_ble_eq_true rfl), (Nat.le_of_ble_eq_true rfl)⟩ (Nat.le_of_ble_eq_true rfl) dL_does_27 ?_
  refine j_istore (L' := [(9, .int r27.1), (8, .int (xpick aa (p1 + (3 : Int32)) (1000 : Int32))), (7, .int (xpick aa (p1 + (4 : Int32)) (1000 : Int32))), (0, .ref (xB aa)), (1, .int p1), (2, .int p2), (3, .ref (ad 0)), (4, .int p4), (5, .int p5), (6, .int p6)]) (pc := 30) g dL_does_30 (Nat.le_of_ble_eq_true rfl) rfl ?_
  refine j_iload (pc := 32) g 2 dL_does_32 rfl ?_
  refine j_bipush (v := 31) (pc := 34) g dL_does_34 (by decide) ?_
  refine j_irem (pc := 36) g dL_does_36 (by decide) ?_
  refine j_if_ne (tgt := 45) (pc := 37) g dL_does_37 (by decide) (fun c_37 => ?_) (fun c_37 => ?_)
  · have hf := gx_if c_37 hf
    refine j_bipush (v := 97) (pc := 45) g dL_does_45 (by decide) ?_
    refine j_iload (pc := 47) g 1 dL_does_47 rfl ?_
    refine j_iconst (v := 5) (pc := 49) g dL_does_49 (by decide) ?_
    refine j_irem (pc := 50) g dL_does_50 (by decide) ?_
    refine j_iadd (pc := 51) g dL_does_51 ?_
    refine j_i2c (pc := 52) g dL_does_52 ?_
    refine j_istore (L' := [(10, .int ((((97 : Int32) + ((xpick aa (p1 + (3 : Int32)) (1000 : Int32)) - (xpick aa (p1 + (3 : Int32)) (1000 : Int32)) / (5 : Int32) * (5 : Int32))).toUInt32 % 65536).toInt32)), (9, .int r27.1), (8, .int (xpick aa (p1 + (3 : Int32)) (1000 : Int32))), (7, .int (xpick aa (p1 + (4 : Int32)) (1000 : Int32))), (0, .ref (xB aa)), (1, .int p1), (2, .int p2), (3, .ref (ad 0)), (4, .int p4), (5, .int p5), (6, .int p6)]) (pc := 53) g dL_does_53 (Nat.le_of_ble_eq_true rfl) rfl ?_
    refine j_sub (pc := 55) g [6, 7, 8, 9, 10, 3, 2, 1, 0] rfl ?_
    exact tL_does_55 hst hxl g hE (r27.2, 0 + 1) p2 p4 p5 p6 (xpick aa (p1 + (4 : Int32)) (1000 : Int32)) (xpick aa (p1 + (3 : Int32)) (1000 : Int32)) r27.1 ((((97 : Int32) + ((xpick aa (p1 + (3 : Int32)) (1000 : Int32)) - (xpick aa (p1 + (3 : Int32)) (1000 : Int32)) / (5 : Int32) * (5 : Int32))).toUInt32 % 65536).toInt32) hf
  · have hf := gx_it c_37 hf
    refine j_bipush (v := 65) (pc := 40) g dL_does_40 (by decide) ?_
    refine j_goto (tgt := 53) (pc := 42) g dL_does_42 (by decide) ?_
    refine j_istore (L' := [(10, .int (65 : Int32)), (9, .int r27.1), (8, .int (xpick aa (p1 + (3 : Int32)) (1000 : Int32))), (7, .int (xpick aa (p1 + (4 : Int32)) (1000 : Int32))), (0, .ref (xB aa)), (1, .int p1), (2, .int p2), (3, .ref (ad 0)), (4, .int p4), (5, .int p5), (6, .int p6)]) (pc := 53) g dL_does_53 (Nat.le_of_ble_eq_true rfl) rfl ?_
    refine j_sub (pc := 55) g [6, 7, 8, 9, 10, 3, 2, 1, 0] rfl ?_
    exact tL_does_55 hst hxl g hE (r27.2, 0 + 1) p2 p4 p5 p6 (xpick aa (p1 + (4 : Int32)) (1000 : Int32)) (xpick aa (p1 + (3 : Int32)) (1000 : Int32)) r27.1 (65 : Int32) hf
