theorem lc_commonSuperior {D : va_G} {t : Nat → ClassId} {aa : gx_AA} {l : Launch} {R : Room} {cc : ByteArray} {nL : Nat} {J : gx_J} {ad : Nat → Nat} {rs w w' : va_W} {κ pc : Nat} {L : List (Nat × Value)} {rest : List Value} (g : gx_G D t (gx_E0 aa) l R cc RL nL J) {M : Nat} (hM : M ≤ R.cells ∧ 6 * M ≤ R.slots) (hst : l.stackTraces = false) (hk : κ + 1 ≤ M) {σ : CS} {p1 : Int32} {p2 : Int32} {q : (Int32 × CS)} (hf : fL_commonSuperior σ p1 p2 = some q) (hp : w.Perm (kW aa ad t σ rs)) (hp' : (kW aa ad t q.2 rs).Perm w') (hR : 8 + 1 ≤ R.frames ∧ 8 + (4 + 11) + 133 ≤ R.locals) (hcat : (rest.map fun v => v.category).sum ≤ 8) (hd : decode cc pc = .ok (.invokestatic 311, 3)) (kk : J (κ + 1) (6 * (κ + 1)) w' (pc + 3) L (.int q.1 :: rest)) : J κ (6 * κ) w pc L (.int p2 :: .int p1 :: .ref (ad 0) :: rest) := j_callH (na := 3) (As := [.ref (ad 0), .int p1, .int p2]) g (hL_commonSuperior_ (rs := rs) hst hf) q_t_L_commonSuperior q_w_L_commonSuperior q_l_L_311 q_n_L (by decide) (by decide +kernel) rfl hR (lk_add hM hk) hcat hp hp' hd kk rfl
theorem lc_isAbove {D : va_G} {t : Nat → ClassId} {aa : gx_AA} {l : Launch} {R : Room} {cc : ByteArray} {nL : Nat} {J : gx_J} {ad : Nat → Nat} {rs w w' : va_W} {κ pc : Nat} {L : List (Nat × Value)} {rest : List Value} (g : gx_G D t (gx_E0 aa) l R cc RL nL J) {M : Nat} (hM : M ≤ R.cells ∧ 6 * M ≤ R.slots) (hst : l.stackTraces = false) (hk : κ + 1 ≤ M) {σ : CS} {p1 : Int32} {p2 : Int32} {q : (Int32 × CS)} (hf : fL_isAbove σ p1 p2 = some q) (hp : w.Perm (kW aa ad t σ rs)) (hp' : (kW aa ad t q.2 rs).Perm w') (hR : 8 + 1 ≤ R.frames ∧ 8 + (4 + 11) + 133 ≤ R.locals) (hcat : (rest.map fun v => v.category).sum ≤ 8) (hd : decode cc pc = .ok (.invokestatic 313, 3)) (kk : J (κ + 1) (6 * (κ + 1)) w' (pc + 3) L (.int q.1 :: rest)) : J κ (6 * κ) w pc L (.int p2 :: .int p1 :: .ref (ad 0) :: rest) := j_callH (na := 3) (As := [.ref (ad 0), .int p1, .int p2]) g (hL_isAbove_ (rs := rs) hst hf) q_t_L_isAbove q_w_L_isAbove q_l_L_313 q_n_L (by decide) (by decide +kernel) rfl hR (lk_add hM hk) hcat hp hp' hd kk rfl
theorem lc_hoursFor {D : va_G} {t : Nat → ClassId} {aa : gx_AA} {l : Launch} {R : Room} {cc : ByteArray} {nL : Nat} {J : gx_J} {ad : Nat → Nat} {rs w w' : va_W} {κ pc : Nat} {L : List (Nat × Value)} {rest : List Value} (g : gx_G D t (gx_E0 aa) l R cc RL nL J) {M : Nat} (hM : M ≤ R.cells ∧ 6 * M ≤ R.slots) (hst : l.stackTraces = false) (hk : κ + 1 ≤ M) {σ : CS} {p1 : Int32} {p2 : Int32} {q : (Int32 × CS)} (hf : fL_hoursFor σ p1 p2 = some q) (hp : w.Perm (kW aa ad t σ rs)) (hp' : (kW aa ad t q.2 rs).Perm w') (hR : 8 + 1 ≤ R.frames ∧ 8 + (4 + 11) + 134 ≤ R.locals) (hcat : (rest.map fun v => v.category).sum ≤ 8) (hd : decode cc pc = .ok (.invokestatic 208, 3)) (kk : J (κ + 1) (6 * (κ + 1)) w' (pc + 3) L (.int q.1 :: rest)) : J κ (6 * κ) w pc L (.int p2 :: .int p1 :: .ref (ad 0) :: rest) := j_callH (na := 3) (As := [.ref (ad 0), .int p1, .int p2]) g (hL_hoursFor_ (rs := rs) hst hf) q_t_L_hoursFor q_w_L_hoursFor q_l_L_208 q_n_L (by decide) (by decide +kernel) rfl hR (lk_add hM hk) hcat hp hp' hd kk rfl
theorem lc_greatestSeverity {D : va_G} {t : Nat → ClassId} {aa : gx_AA} {l : Launch} {R : Room} {cc : ByteArray} {nL : Nat} {J : gx_J} {ad : Nat → Nat} {rs w w' : va_W} {κ pc : Nat} {L : List (Nat × Value)} {rest : List Value} (g : gx_G D t (gx_E0 aa) l R cc RL nL J) {M : Nat} (hM : M ≤ R.cells ∧ 6 * M ≤ R.slots) (hst : l.stackTraces = false) (hk : κ + 1 ≤ M) {σ : CS} {p1 : Int32} {p2 : Int32} {q : (Int32 × CS)} (hf : fL_greatestSeverity σ p1 p2 = some q) (hp : w.Perm (kW aa ad t σ rs)) (hp' : (kW aa ad t q.2 rs).Perm w') (hR : 8 + 1 ≤ R.frames ∧ 8 + (4 + 11) + 134 ≤ R.locals) (hcat : (rest.map fun v => v.category).sum ≤ 8) (hd : decode cc pc = .ok (.invokestatic 211, 3)) (kk : J (κ + 1) (6 * (κ + 1)) w' (pc + 3) L (.int q.1 :: rest)) : J κ (6 * κ) w pc L (.int p2 :: .int p1 :: .ref (ad 0) :: rest) := j_callH (na := 3) (As := [.ref (ad 0), .int p1, .int p2]) g (hL_greatestSeverity_ (rs := rs) hst hf) q_t_L_greatestSeverity q_w_L_greatestSeverity q_l_L_211 q_n_L (by decide) (by decide +kernel) rfl hR (lk_add hM hk) hcat hp hp' hd kk rfl
theorem lc_firstRefusal {D : va_G} {t : Nat → ClassId} {aa : gx_AA} {l : Launch} {R : Room} {cc : ByteArray} {nL : Nat} {J : gx_J} {ad : Nat → Nat} {rs w w' : va_W} {κ pc : Nat} {L : List (Nat × Value)} {rest : List Value} (g : gx_G D t (gx_E0 aa) l R cc RL nL J) {M : Nat} (hM : M ≤ R.cells ∧ 6 * M ≤ R.slots) (hst : l.stackTraces = false) (hk : κ + 1 ≤ M) {σ : CS} {p1 : Int32} {p2 : Int32} {p3 : Int32} {q : (Int32 × CS)} (hf : fL_firstRefusal σ p1 p2 p3 = some q) (hp : w.Perm (kW aa ad t σ rs)) (hp' : (kW aa ad t q.2 rs).Perm w') (hR : 8 + 1 ≤ R.frames ∧ 8 + (5 + 11) + 136 ≤ R.locals) (hcat : (rest.map fun v => v.category).sum ≤ 8) (hd : decode cc pc = .ok (.invokestatic 315, 3)) (kk : J (κ + 1) (6 * (κ + 1)) w' (pc + 3) L (.int q.1 :: rest)) : J κ (6 * κ) w pc L (.int p3 :: .int p2 :: .int p1 :: .ref (ad 0) :: rest) := j_callH (na := 4) (As := [.ref (ad 0), .int p1, .int p2, .int p3]) g (hL_firstRefusal_ (rs := rs) hst hf) q_t_L_firstRefusal q_w_L_firstRefusal q_l_L_315 q_n_L (by decide) (by decide +kernel) rfl hR (lk_add hM hk) hcat hp hp' hd kk rfl
theorem lc_greatestSeverityByTrial {D : va_G} {t : Nat → ClassId} {aa : gx_AA} {l : Launch} {R : Room} {cc : ByteArray} {nL : Nat} {J : gx_J} {ad : Nat → Nat} {rs w w' : va_W} {κ pc : Nat} {L : List (Nat × Value)} {rest : List Value} (g : gx_G D t (gx_E0 aa) l R cc RL nL J) {M : Nat} (hM : M ≤ R.cells ∧ 6 * M ≤ R.slots) (hst : l.stackTraces = false) (hk : κ + 1 ≤ M) {σ : CS} {p1 : Int32} {p2 : Int32} {q : (Int32 × CS)} (hf : fL_greatestSeverityByTrial σ p1 p2 = some q) (hp : w.Perm (kW aa ad t σ rs)) (hp' : (kW aa ad t q.2 rs).Perm w') (hR : 8 + 1 ≤ R.frames ∧ 8 + (4 + 11) + 135 ≤ R.locals) (hcat : (rest.map fun v => v.category).sum ≤ 8) (hd : decode cc pc = .ok (.invokestatic 319, 3)) (kk : J (κ + 1) (6 * (κ + 1)) w' (pc + 3) L (.int q.1 :: rest)) : J κ (6 * κ) w pc L (.int p2 :: .int p1 :: .ref (ad 0) :: rest) := j_callH (na := 3) (As := [.ref (ad 0), .int p1, .int p2]) g (hL_greatestSeverityByTrial_ (rs := rs) hst hf) q_t_L_greatestSeverityByTrial q_w_L_greatestSeverityByTrial q_l_L_319 q_n_L (by decide) (by decide +kernel) rfl hR (lk_add hM hk) hcat hp hp' hd kk rfl
theorem lc_depth {D : va_G} {t : Nat → ClassId} {aa : gx_AA} {l : Launch} {R : Room} {cc : ByteArray} {nL : Nat} {J : gx_J} {ad : Nat → Nat} {rs w w' : va_W} {κ pc : Nat} {L : List (Nat × Value)} {rest : List Value} (g : gx_G D t (gx_E0 aa) l R cc RL nL J) {M : Nat} (hM : M ≤ R.cells ∧ 6 * M ≤ R.slots) (hst : l.stackTraces = false) (hk : κ + 1 ≤ M) {σ : CS} {p1 : Int32} {q : (Int32 × CS)} (hf : fL_depth σ p1 = some q) (hp : w.Perm (kW aa ad t σ rs)) (hp' : (kW aa ad t q.2 rs).Perm w') (hR : 8 + 1 ≤ R.frames ∧ 8 + (3 + 11) + 132 ≤ R.locals) (hcat : (rest.map fun v => v.category).sum ≤ 8) (hd : decode cc pc = .ok (.invokestatic 317, 3)) (kk : J (κ + 1) (6 * (κ + 1)) w' (pc + 3) L (.int q.1 :: rest)) : J κ (6 * κ) w pc L (.int p1 :: .ref (ad 0) :: rest) := j_callH (na := 2) (As := [.ref (ad 0), .int p1]) g (hL_depth_ (rs := rs) hst hf) q_t_L_depth q_w_L_depth q_l_L_317 q_n_L (by decide) (by decide +kernel) rfl hR (lk_add hM hk) hcat hp hp' hd kk rfl
set_option maxRecDepth 100000 in
set_option maxHeartbeats 8000000 in
theorem tL_isPair_316 {D : va_G} {t : Nat → ClassId} {aa : gx_AA} {l : Launch} {J : gx_J} {ad : Nat → Nat} {rs : va_W} {q : (Int32 × LwS)} (hst : l.stackTraces = false) (hxl : xL aa < 2 ^ 31) (g : gx_G D t (gx_E0 aa) l ({ frames := 9, cells := 30, slots := 180, locals := 160 }) cL_isPair RL 12 J) (hE : ∀ (v : Int32) (σ : LwS) (pc : Nat) (L : List (Nat × Value)), some (v, σ) = some q → σ.2 ≤ 30 → decode cL_isPair pc = .ok (.ireturn, 1) → narrow .boolean (.int v) = .int v → J σ.2 (6 * σ.2) (kW aa ad t σ.1 rs) pc L [.int v])  : ∀ (σ : LwS) (v1 : Int32) (v2 : Int32) (v5 : Int32) (v6 : Int32) (v10 : Int32) (v11 : Int32), fL_isPair_316 aa σ v1 v2 v5 v6 v10 v11 = some q → J σ.2 (6 * σ.2) (kW aa ad t σ.1 rs) 316 [(0, .ref (ad 0)), (1, .int v1), (2, .int v2), (5, .int v5), (6, .int v6), (10, .int v10), (11, .int v11)] [] := by
  intro σ v1 v2 v5 v6 v10 v11 hf
  unfold fL_isPair_316 at hf
  refine j_iload (pc := 316) g 4 dL_isPair_316 rfl ?_
  refine j_if_eq (tgt := 354) (pc := 318) g dL_isPair_318 (by decide) (fun c_318 => ?_) (fun c_318 => ?_)
  · have hf := gx_it c_318 hf
    refine j_iconst (v := 0) (pc := 354) g dL_isPair_354 (by decide) ?_
    obtain ⟨h_k, hf⟩ := gx_ck hf
    exact hE _ _ _ _ hf h_k dL_isPair_355 rfl
  · have hf := gx_if c_318 hf
    refine j_iload (pc := 321) g 5 dL_isPair_321 rfl ?_
    refine j_if_eq (tgt := 354) (pc := 323) g dL_isPair_323 (by decide) (fun c_323 => ?_) (fun c_323 => ?_)
    · have hf := gx_it c_323 hf
      refine j_iconst (v := 0) (pc := 354) g dL_isPair_354 (by decide) ?_
      obtain ⟨h_k, hf⟩ := gx_ck hf
      exact hE _ _ _ _ hf h_k dL_isPair_355 rfl
    · have hf := gx_if c_323 hf
      refine j_iload (pc := 326) g 6 dL_isPair_326 rfl ?_
      refine j_if_eq (tgt := 354) (pc := 328) g dL_isPair_328 (by decide) (fun c_328 => ?_) (fun c_328 => ?_)
      · have hf := gx_it c_328 hf
        refine j_iconst (v := 0) (pc := 354) g dL_isPair_354 (by decide) ?_
        obtain ⟨h_k, hf⟩ := gx_ck hf
        exact hE _ _ _ _ hf h_k dL_isPair_355 rfl
      · have hf := gx_if c_328 hf
        refine j_iload (pc := 331) g 3 dL_isPair_331 rfl ?_
        refine j_if_eq (tgt := 350) (pc := 333) g dL_isPair_333 (by decide) (fun c_333 => ?_) (fun c_333 => ?_)
        · have hf := gx_it c_333 hf
          refine j_iconst (v := 1) (pc := 350) g dL_isPair_350 (by decide) ?_
          refine j_goto (tgt := 355) (pc := 351) g dL_isPair_351 (by decide) ?_
          obtain ⟨h_k, hf⟩ := gx_ck hf
          exact hE _ _ _ _ hf h_k dL_isPair_355 rfl
        · have hf := gx_if c_333 hf
          refine j_aload_n (pc := 336) g 0 dL_isPair_336 rfl ?_
          refine j_iload_n (pc := 337) g 2 dL_isPair_337 rfl ?_
          refine j_iload_n (pc := 338) g 1 dL_isPair_338 rfl ?_
          obtain ⟨k_339, hf⟩ := gx_ck hf
          obtain ⟨r339, h_339, hf⟩ := gx_bs hf
          refine lc_isAbove (pc := 339) g (M := 30) ⟨(Nat.le_of_ble_eq_true rfl), (Nat.le_of_ble_eq_true rfl)⟩ hst k_339 h_339 (.refl _) (.refl _) ⟨(Nat.le_of_ble_eq_true rfl), (Nat.le_of_ble_eq_true rfl)⟩ (Nat.le_of_ble_eq_true rfl) dL_isPair_339 ?_
          refine j_if_ne (tgt := 354) (pc := 342) g dL_isPair_342 (by decide) (fun c_342 => ?_) (fun c_342 => ?_)
          · have hf := gx_if c_342 hf
            refine j_iconst (v := 0) (pc := 354) g dL_isPair_354 (by decide) ?_
            obtain ⟨h_k, hf⟩ := gx_ck hf
            exact hE _ _ _ _ hf h_k dL_isPair_355 rfl
          · have hf := gx_it c_342 hf
            refine j_iload_n (pc := 345) g 1 dL_isPair_345 rfl ?_
            refine j_iload_n (pc := 346) g 2 dL_isPair_346 rfl ?_
            refine j_icmp_eq (tgt := 354) (pc := 347) g dL_isPair_347 (by decide) (fun c_347 => ?_) (fun c_347 => ?_)
            · have hf := gx_it c_347 hf
              refine j_iconst (v := 0) (pc := 354) g dL_isPair_354 (by decide) ?_
              obtain ⟨h_k, hf⟩ := gx_ck hf
              exact hE _ _ _ _ hf h_k dL_isPair_355 rfl
            · have hf := gx_if c_347 hf
              refine j_iconst (v := 1) (pc := 350) g dL_isPair_350 (by decide) ?_
              refine j_goto (tgt := 355) (pc := 351) g dL_isPair_351 (by decide) ?_
              obtain ⟨h_k, hf⟩ := gx_ck hf
              exact hE _ _ _ _ hf h_k dL_isPair_355 rfl
set_option maxRecDepth 100000 in
set_option maxHeartbeats 8000000 in
theorem tL_isPair_294 {D : va_G} {t : Nat → ClassId} {aa : gx_AA} {l : Launch} {J : gx_J} {ad : Nat → Nat} {rs : va_W} {q : (Int32 × LwS)} (hst : l.stackTraces = false) (hxl : xL aa < 2 ^ 31) (g : gx_G D t (gx_E0 aa) l ({ frames := 9, cells := 30, slots := 180, locals := 160 }) cL_isPair RL 12 J) (hE : ∀ (v : Int32) (σ : LwS) (pc : Nat) (L : List (Nat × Value)), some (v, σ) = some q → σ.2 ≤ 30 → decode cL_isPair pc = .ok (.ireturn, 1) → narrow .boolean (.int v) = .int v → J σ.2 (6 * σ.2) (kW aa ad t σ.1 rs) pc L [.int v])  : ∀ (σ : LwS) (v1 : Int32) (v2 : Int32) (v5 : Int32) (v6 : Int32) (v10 : Int32), fL_isPair_294 aa σ v1 v2 v5 v6 v10 = some q → J σ.2 (6 * σ.2) (kW aa ad t σ.1 rs) 294 [(0, .ref (ad 0)), (1, .int v1), (2, .int v2), (5, .int v5), (6, .int v6), (10, .int v10)] [] := by
  intro σ v1 v2 v5 v6 v10 hf
  unfold fL_isPair_294 at hf
  refine j_iconst (v := 1) (pc := 294) g dL_isPair_294 (by decide) ?_
  refine j_goto (tgt := 314) (pc := 295) g dL_isPair_295 (by decide) ?_
  refine j_istore (L' := [(11, .int (1 : Int32)), (0, .ref (ad 0)), (1, .int v1), (2, .int v2), (5, .int v5), (6, .int v6), (10, .int v10)]) (pc := 314) g dL_isPair_314 (Nat.le_of_ble_eq_true rfl) rfl ?_
  refine j_sub (pc := 316) g [1, 2, 3, 4, 5, 6, 0] rfl ?_
  exact tL_isPair_316 hst hxl g hE σ v1 v2 v5 v6 v10 (1 : Int32) hf
set_option maxRecDepth 100000 in
set_option maxHeartbeats 8000000 in
theorem tL_isPair_298 {D : va_G} {t : Nat → ClassId} {aa : gx_AA} {l : Launch} {J : gx_J} {ad : Nat → Nat} {rs : va_W} {q : (Int32 × LwS)} (hst : l.stackTraces = false) (hxl : xL aa < 2 ^ 31) (g : gx_G D t (gx_E0 aa) l ({ frames := 9, cells := 30, slots := 180, locals := 160 }) cL_isPair RL 12 J) (hE : ∀ (v : Int32) (σ : LwS) (pc : Nat) (L : List (Nat × Value)), some (v, σ) = some q → σ.2 ≤ 30 → decode cL_isPair pc = .ok (.ireturn, 1) → narrow .boolean (.int v) = .int v → J σ.2 (6 * σ.2) (kW aa ad t σ.1 rs) pc L [.int v])  : ∀ (σ : LwS) (v1 : Int32) (v2 : Int32) (v5 : Int32) (v6 : Int32) (v10 : Int32), fL_isPair_298 aa σ v1 v2 v5 v6 v10 = some q → J σ.2 (6 * σ.2) (kW aa ad t σ.1 rs) 298 [(0, .ref (ad 0)), (1, .int v1), (2, .int v2), (5, .int v5), (6, .int v6), (10, .int v10)] [] := by
  intro σ v1 v2 v5 v6 v10 hf
  unfold fL_isPair_298 at hf
  refine j_iconst (v := 0) (pc := 298) g dL_isPair_298 (by decide) ?_
  refine j_goto (tgt := 314) (pc := 299) g dL_isPair_299 (by decide) ?_
  refine j_istore (L' := [(11, .int (0 : Int32)), (0, .ref (ad 0)), (1, .int v1), (2, .int v2), (5, .int v5), (6, .int v6), (10, .int v10)]) (pc := 314) g dL_isPair_314 (Nat.le_of_ble_eq_true rfl) rfl ?_
  refine j_sub (pc := 316) g [1, 2, 3, 4, 5, 6, 0] rfl ?_
  exact tL_isPair_316 hst hxl g hE σ v1 v2 v5 v6 v10 (0 : Int32) hf
set_option maxRecDepth 100000 in
set_option maxHeartbeats 8000000 in
theorem tL_isPair_218 {D : va_G} {t : Nat → ClassId} {aa : gx_AA} {l : Launch} {J : gx_J} {ad : Nat → Nat} {rs : va_W} {q : (Int32 × LwS)} (hst : l.stackTraces = false) (hxl : xL aa < 2 ^ 31) (g : gx_G D t (gx_E0 aa) l ({ frames := 9, cells := 30, slots := 180, locals := 160 }) cL_isPair RL 12 J) (hE : ∀ (v : Int32) (σ : LwS) (pc : Nat) (L : List (Nat × Value)), some (v, σ) = some q → σ.2 ≤ 30 → decode cL_isPair pc = .ok (.ireturn, 1) → narrow .boolean (.int v) = .int v → J σ.2 (6 * σ.2) (kW aa ad t σ.1 rs) pc L [.int v])  : ∀ (σ : LwS) (v1 : Int32) (v2 : Int32) (v3 : Int32) (v5 : Int32) (v6 : Int32) (v8 : Int32) (v9 : Int32) (v10 : Int32), fL_isPair_218 aa σ v1 v2 v3 v5 v6 v8 v9 v10 = some q → J σ.2 (6 * σ.2) (kW aa ad t σ.1 rs) 218 [(0, .ref (ad 0)), (1, .int v1), (2, .int v2), (3, .int v3), (5, .int v5), (6, .int v6), (8, .int v8), (9, .int v9), (10, .int v10)] [] := by
  intro σ v1 v2 v3 v5 v6 v8 v9 v10 hf
  unfold fL_isPair_218 at hf
  refine j_iload (pc := 218) g 4 dL_isPair_218 rfl ?_
  refine j_if_eq (tgt := 302) (pc := 220) g dL_isPair_220 (by decide) (fun c_220 => ?_) (fun c_220 => ?_)
  · have hf := gx_it c_220 hf
    refine j_iload (pc := 302) g 7 dL_isPair_302 rfl ?_
    refine j_bipush (v := -79) (pc := 304) g dL_isPair_304 (by decide) ?_
    refine j_icmp_ne (tgt := 313) (pc := 306) g dL_isPair_306 (by decide) (fun c_306 => ?_) (fun c_306 => ?_)
    · have hf := gx_if c_306 hf
      refine j_iconst (v := 0) (pc := 313) g dL_isPair_313 (by decide) ?_
      refine j_istore (L' := [(11, .int (0 : Int32)), (0, .ref (ad 0)), (1, .int v1), (2, .int v2), (3, .int v3), (5, .int v5), (6, .int v6), (8, .int v8), (9, .int v9), (10, .int v10)]) (pc := 314) g dL_isPair_314 (Nat.le_of_ble_eq_true rfl) rfl ?_
      refine j_sub (pc := 316) g [1, 2, 3, 5, 6, 9, 0] rfl ?_
      exact tL_isPair_316 hst hxl g hE σ v1 v2 v5 v6 v10 (0 : Int32) hf
    · have hf := gx_it c_306 hf
      refine j_iconst (v := 1) (pc := 309) g dL_isPair_309 (by decide) ?_
      refine j_goto (tgt := 314) (pc := 310) g dL_isPair_310 (by decide) ?_
      refine j_istore (L' := [(11, .int (1 : Int32)), (0, .ref (ad 0)), (1, .int v1), (2, .int v2), (3, .int v3), (5, .int v5), (6, .int v6), (8, .int v8), (9, .int v9), (10, .int v10)]) (pc := 314) g dL_isPair_314 (Nat.le_of_ble_eq_true rfl) rfl ?_
      refine j_sub (pc := 316) g [1, 2, 3, 5, 6, 9, 0] rfl ?_
      exact tL_isPair_316 hst hxl g hE σ v1 v2 v5 v6 v10 (1 : Int32) hf
  · have hf := gx_if c_220 hf
    refine j_iload (pc := 223) g 7 dL_isPair_223 rfl ?_
    refine j_bipush (v := -75) (pc := 225) g dL_isPair_225 (by decide) ?_
    refine j_icmp_ne (tgt := 234) (pc := 227) g dL_isPair_227 (by decide) (fun c_227 => ?_) (fun c_227 => ?_)
    · have hf := gx_if c_227 hf
      refine j_iconst (v := 0) (pc := 234) g dL_isPair_234 (by decide) ?_
      refine j_iload_n (pc := 235) g 3 dL_isPair_235 rfl ?_
      refine j_iload (pc := 236) g 6 dL_isPair_236 rfl ?_
      refine j_icmp_gt (tgt := 245) (pc := 238) g dL_isPair_238 (by decide) (fun c_238 => ?_) (fun c_238 => ?_)
      · have hf := gx_it c_238 hf
        refine j_iconst (v := 0) (pc := 245) g dL_isPair_245 (by decide) ?_
        refine j_icmp_ne (tgt := 298) (pc := 246) g dL_isPair_246 (by decide) (fun h => absurd h (by decide)) (fun _ => ?_)
        refine j_iload (pc := 249) g 7 dL_isPair_249 rfl ?_
        refine j_bipush (v := -75) (pc := 251) g dL_isPair_251 (by decide) ?_
        refine j_icmp_eq (tgt := 294) (pc := 253) g dL_isPair_253 (by decide) (fun c_253 => ?_) (fun c_253 => ?_)
        · have hf := gx_it c_253 hf
          refine j_sub (pc := 294) g [0, 1, 2, 4, 5, 8] rfl ?_
          exact tL_isPair_294 hst hxl g hE σ v1 v2 v5 v6 v10 hf
        · have hf := gx_if c_253 hf
          refine j_aload_n (pc := 256) g 0 dL_isPair_256 rfl ?_
          refine j_iload (pc := 257) g 7 dL_isPair_257 rfl ?_
          obtain ⟨k_259, hf⟩ := gx_ck hf
          obtain ⟨r259, h_259, hf⟩ := gx_bs hf
          refine lc_loyalty (pc := 259) g (M := 30) ⟨(Nat.le_of_ble_eq_true rfl), (Nat.le_of_ble_eq_true rfl)⟩ hst k_259 h_259 (.refl _) (.refl _) ⟨(Nat.le_of_ble_eq_true rfl), (Nat.le_of_ble_eq_true rfl)⟩ (Nat.le_of_ble_eq_true rfl) dL_isPair_259 ?_
          refine j_iload_n (pc := 262) g 3 dL_isPair_262 rfl ?_
          refine j_icmp_ge (tgt := 298) (pc := 263) g dL_isPair_263 (by decide) (fun c_263 => ?_) (fun c_263 => ?_)
          · have hf := gx_it c_263 hf
            refine j_sub (pc := 298) g [0, 1, 2, 4, 5, 8] rfl ?_
            exact tL_isPair_298 hst hxl g hE (r259.2, σ.2 + 1) v1 v2 v5 v6 v10 hf
          · have hf := gx_if c_263 hf
            refine j_aload_n (pc := 266) g 0 dL_isPair_266 rfl ?_
            refine j_iload_n (pc := 267) g 1 dL_isPair_267 rfl ?_
            refine j_iload (pc := 268) g 7 dL_isPair_268 rfl ?_
            obtain ⟨k_270, hf⟩ := gx_ck hf
            obtain ⟨r270, h_270, hf⟩ := gx_bs hf
            refine lc_isAbove (pc := 270) g (M := 30) ⟨(Nat.le_of_ble_eq_true rfl), (Nat.le_of_ble_eq_true rfl)⟩ hst k_270 h_270 (.refl _) (.refl _) ⟨(Nat.le_of_ble_eq_true rfl), (Nat.le_of_ble_eq_true rfl)⟩ (Nat.le_of_ble_eq_true rfl) dL_isPair_270 ?_
            refine j_iconst (v := 1) (pc := 273) g dL_isPair_273 (by decide) ?_
            refine j_icmp_ne (tgt := 298) (pc := 274) g dL_isPair_274 (by decide) (fun c_274 => ?_) (fun c_274 => ?_)
            · have hf := gx_if c_274 hf
              refine j_sub (pc := 298) g [0, 1, 2, 4, 5, 8] rfl ?_
              exact tL_isPair_298 hst hxl g hE (r270.2, (σ.2 + 1) + 1) v1 v2 v5 v6 v10 hf
            · have hf := gx_it c_274 hf
              refine j_iload (pc := 277) g 7 dL_isPair_277 rfl ?_
              refine j_iload_n (pc := 279) g 2 dL_isPair_279 rfl ?_
              refine j_icmp_eq (tgt := 294) (pc := 280) g dL_isPair_280 (by decide) (fun c_280 => ?_) (fun c_280 => ?_)
              · have hf := gx_it c_280 hf
                refine j_sub (pc := 294) g [0, 1, 2, 4, 5, 8] rfl ?_
                exact tL_isPair_294 hst hxl g hE (r270.2, (σ.2 + 1) + 1) v1 v2 v5 v6 v10 hf
              · have hf := gx_if c_280 hf
                refine j_aload_n (pc := 283) g 0 dL_isPair_283 rfl ?_
                refine j_iload (pc := 284) g 7 dL_isPair_284 rfl ?_
                refine j_iload_n (pc := 286) g 2 dL_isPair_286 rfl ?_
                obtain ⟨k_287, hf⟩ := gx_ck hf
                obtain ⟨r287, h_287, hf⟩ := gx_bs hf
                refine lc_isAbove (pc := 287) g (M := 30) ⟨(Nat.le_of_ble_eq_true rfl), (Nat.le_of_ble_eq_true rfl)⟩ hst k_287 h_287 (.refl _) (.refl _) ⟨(Nat.le_of_ble_eq_true rfl), (Nat.le_of_ble_eq_true rfl)⟩ (Nat.le_of_ble_eq_true rfl) dL_isPair_287 ?_
                refine j_iconst (v := 1) (pc := 290) g dL_isPair_290 (by decide) ?_
                refine j_icmp_ne (tgt := 298) (pc := 291) g dL_isPair_291 (by decide) (fun c_291 => ?_) (fun c_291 => ?_)
                · have hf := gx_if c_291 hf
                  refine j_sub (pc := 298) g [0, 1, 2, 4, 5, 8] rfl ?_
                  exact tL_isPair_298 hst hxl g hE (r287.2, ((σ.2 + 1) + 1) + 1) v1 v2 v5 v6 v10 hf
                · have hf := gx_it c_291 hf
                  refine j_sub (pc := 294) g [0, 1, 2, 4, 5, 8] rfl ?_
                  exact tL_isPair_294 hst hxl g hE (r287.2, ((σ.2 + 1) + 1) + 1) v1 v2 v5 v6 v10 hf
      · have hf := gx_if c_238 hf
        refine j_iconst (v := 1) (pc := 241) g dL_isPair_241 (by decide) ?_
        refine j_goto (tgt := 246) (pc := 242) g dL_isPair_242 (by decide) ?_
        refine j_icmp_ne (tgt := 298) (pc := 246) g dL_isPair_246 (by decide) (fun _ => ?_) (fun h => absurd h (by decide))
        refine j_sub (pc := 298) g [0, 1, 2, 4, 5, 8] rfl ?_
        exact tL_isPair_298 hst hxl g hE σ v1 v2 v5 v6 v10 hf
    · have hf := gx_it c_227 hf
      refine j_iconst (v := 1) (pc := 230) g dL_isPair_230 (by decide) ?_
      refine j_goto (tgt := 235) (pc := 231) g dL_isPair_231 (by decide) ?_
      refine j_iload_n (pc := 235) g 3 dL_isPair_235 rfl ?_
      refine j_iload (pc := 236) g 6 dL_isPair_236 rfl ?_
      refine j_icmp_gt (tgt := 245) (pc := 238) g dL_isPair_238 (by decide) (fun c_238 => ?_) (fun c_238 => ?_)
      · have hf := gx_it c_238 hf
        refine j_iconst (v := 0) (pc := 245) g dL_isPair_245 (by decide) ?_
        refine j_icmp_ne (tgt := 298) (pc := 246) g dL_isPair_246 (by decide) (fun _ => ?_) (fun h => absurd h (by decide))
        refine j_sub (pc := 298) g [0, 1, 2, 4, 5, 8] rfl ?_
        exact tL_isPair_298 hst hxl g hE σ v1 v2 v5 v6 v10 hf
      · have hf := gx_if c_238 hf
        refine j_iconst (v := 1) (pc := 241) g dL_isPair_241 (by decide) ?_
        refine j_goto (tgt := 246) (pc := 242) g dL_isPair_242 (by decide) ?_
        refine j_icmp_ne (tgt := 298) (pc := 246) g dL_isPair_246 (by decide) (fun h => absurd h (by decide)) (fun _ => ?_)
        refine j_iload (pc := 249) g 7 dL_isPair_249 rfl ?_
        refine j_bipush (v := -75) (pc := 251) g dL_isPair_251 (by decide) ?_
        refine j_icmp_eq (tgt := 294) (pc := 253) g dL_isPair_253 (by decide) (fun c_253 => ?_) (fun c_253 => ?_)
        · have hf := gx_it c_253 hf
          refine j_sub (pc := 294) g [0, 1, 2, 4, 5, 8] rfl ?_
          exact tL_isPair_294 hst hxl g hE σ v1 v2 v5 v6 v10 hf
        · have hf := gx_if c_253 hf
          refine j_aload_n (pc := 256) g 0 dL_isPair_256 rfl ?_
          refine j_iload (pc := 257) g 7 dL_isPair_257 rfl ?_
          obtain ⟨k_259, hf⟩ := gx_ck hf
          obtain ⟨r259, h_259, hf⟩ := gx_bs hf
          refine lc_loyalty (pc := 259) g (M := 30) ⟨(Nat.le_of_ble_eq_true rfl), (Nat.le_of_ble_eq_true rfl)⟩ hst k_259 h_259 (.refl _) (.refl _) ⟨(Nat.le_of_ble_eq_true rfl), (Nat.le_of_ble_eq_true rfl)⟩ (Nat.le_of_ble_eq_true rfl) dL_isPair_259 ?_
          refine j_iload_n (pc := 262) g 3 dL_isPair_262 rfl ?_
          refine j_icmp_ge (tgt := 298) (pc := 263) g dL_isPair_263 (by decide) (fun c_263 => ?_) (fun c_263 => ?_)
          · have hf := gx_it c_263 hf
            refine j_sub (pc := 298) g [0, 1, 2, 4, 5, 8] rfl ?_
            exact tL_isPair_298 hst hxl g hE (r259.2, σ.2 + 1) v1 v2 v5 v6 v10 hf
          · have hf := gx_if c_263 hf
            refine j_aload_n (pc := 266) g 0 dL_isPair_266 rfl ?_
            refine j_iload_n (pc := 267) g 1 dL_isPair_267 rfl ?_
            refine j_iload (pc := 268) g 7 dL_isPair_268 rfl ?_
            obtain ⟨k_270, hf⟩ := gx_ck hf
            obtain ⟨r270, h_270, hf⟩ := gx_bs hf
            refine lc_isAbove (pc := 270) g (M := 30) ⟨(Nat.le_of_ble_eq_true rfl), (Nat.le_of_ble_eq_true rfl)⟩ hst k_270 h_270 (.refl _) (.refl _) ⟨(Nat.le_of_ble_eq_true rfl), (Nat.le_of_ble_eq_true rfl)⟩ (Nat.le_of_ble_eq_true rfl) dL_isPair_270 ?_
            refine j_iconst (v := 1) (pc := 273) g dL_isPair_273 (by decide) ?_
            refine j_icmp_ne (tgt := 298) (pc := 274) g dL_isPair_274 (by decide) (fun c_274 => ?_) (fun c_274 => ?_)
            · have hf := gx_if c_274 hf
              refine j_sub (pc := 298) g [0, 1, 2, 4, 5, 8] rfl ?_
              exact tL_isPair_298 hst hxl g hE (r270.2, (σ.2 + 1) + 1) v1 v2 v5 v6 v10 hf
            · have hf := gx_it c_274 hf
              refine j_iload (pc := 277) g 7 dL_isPair_277 rfl ?_
              refine j_iload_n (pc := 279) g 2 dL_isPair_279 rfl ?_
              refine j_icmp_eq (tgt := 294) (pc := 280) g dL_isPair_280 (by decide) (fun c_280 => ?_) (fun c_280 => ?_)
              · have hf := gx_it c_280 hf
                refine j_sub (pc := 294) g [0, 1, 2, 4, 5, 8] rfl ?_
                exact tL_isPair_294 hst hxl g hE (r270.2, (σ.2 + 1) + 1) v1 v2 v5 v6 v10 hf
              · have hf := gx_if c_280 hf
                refine j_aload_n (pc := 283) g 0 dL_isPair_283 rfl ?_
                refine j_iload (pc := 284) g 7 dL_isPair_284 rfl ?_
                refine j_iload_n (pc := 286) g 2 dL_isPair_286 rfl ?_
                obtain ⟨k_287, hf⟩ := gx_ck hf
                obtain ⟨r287, h_287, hf⟩ := gx_bs hf
                refine lc_isAbove (pc := 287) g (M := 30) ⟨(Nat.le_of_ble_eq_true rfl), (Nat.le_of_ble_eq_true rfl)⟩ hst k_287 h_287 (.refl _) (.refl _) ⟨(Nat.le_of_ble_eq_true rfl), (Nat.le_of_ble_eq_true rfl)⟩ (Nat.le_of_ble_eq_true rfl) dL_isPair_287 ?_
                refine j_iconst (v := 1) (pc := 290) g dL_isPair_290 (by decide) ?_
                refine j_icmp_ne (tgt := 298) (pc := 291) g dL_isPair_291 (by decide) (fun c_291 => ?_) (fun c_291 => ?_)
                · have hf := gx_if c_291 hf
                  refine j_sub (pc := 298) g [0, 1, 2, 4, 5, 8] rfl ?_
                  exact tL_isPair_298 hst hxl g hE (r287.2, ((σ.2 + 1) + 1) + 1) v1 v2 v5 v6 v10 hf
                · have hf := gx_it c_291 hf
                  refine j_sub (pc := 294) g [0, 1, 2, 4, 5, 8] rfl ?_
                  exact tL_isPair_294 hst hxl g hE (r287.2, ((σ.2 + 1) + 1) + 1) v1 v2 v5 v6 v10 hf
set_option maxRecDepth 100000 in
set_option maxHeartbeats 8000000 in
theorem tL_isPair_182 {D : va_G} {t : Nat → ClassId} {aa : gx_AA} {l : Launch} {J : gx_J} {ad : Nat → Nat} {rs : va_W} {q : (Int32 × LwS)} (hst : l.stackTraces = false) (hxl : xL aa < 2 ^ 31) (g : gx_G D t (gx_E0 aa) l ({ frames := 9, cells := 30, slots := 180, locals := 160 }) cL_isPair RL 12 J) (hE : ∀ (v : Int32) (σ : LwS) (pc : Nat) (L : List (Nat × Value)), some (v, σ) = some q → σ.2 ≤ 30 → decode cL_isPair pc = .ok (.ireturn, 1) → narrow .boolean (.int v) = .int v → J σ.2 (6 * σ.2) (kW aa ad t σ.1 rs) pc L [.int v])  : ∀ (σ : LwS) (v1 : Int32) (v2 : Int32) (v3 : Int32) (v5 : Int32) (v6 : Int32) (v8 : Int32) (v9 : Int32), fL_isPair_182 aa σ v1 v2 v3 v5 v6 v8 v9 = some q → J σ.2 (6 * σ.2) (kW aa ad t σ.1 rs) 182 [(0, .ref (ad 0)), (1, .int v1), (2, .int v2), (3, .int v3), (5, .int v5), (6, .int v6), (8, .int v8), (9, .int v9)] [] := by
  intro σ v1 v2 v3 v5 v6 v8 v9 hf
  unfold fL_isPair_182 at hf
  refine j_iconst (v := 0) (pc := 182) g dL_isPair_182 (by decide) ?_
  refine j_goto (tgt := 216) (pc := 183) g dL_isPair_183 (by decide) ?_
  refine j_istore (L' := [(10, .int (0 : Int32)), (0, .ref (ad 0)), (1, .int v1), (2, .int v2), (3, .int v3), (5, .int v5), (6, .int v6), (8, .int v8), (9, .int v9)]) (pc := 216) g dL_isPair_216 (Nat.le_of_ble_eq_true rfl) rfl ?_
  refine j_sub (pc := 218) g [1, 2, 3, 4, 5, 6, 7, 8, 0] rfl ?_
  exact tL_isPair_218 hst hxl g hE σ v1 v2 v3 v5 v6 v8 v9 (0 : Int32) hf
set_option maxRecDepth 100000 in
set_option maxHeartbeats 8000000 in
theorem tL_isPair_215 {D : va_G} {t : Nat → ClassId} {aa : gx_AA} {l : Launch} {J : gx_J} {ad : Nat → Nat} {rs : va_W} {q : (Int32 × LwS)} (hst : l.stackTraces = false) (hxl : xL aa < 2 ^ 31) (g : gx_G D t (gx_E0 aa) l ({ frames := 9, cells := 30, slots := 180, locals := 160 }) cL_isPair RL 12 J) (hE : ∀ (v : Int32) (σ : LwS) (pc : Nat) (L : List (Nat × Value)), some (v, σ) = some q → σ.2 ≤ 30 → decode cL_isPair pc = .ok (.ireturn, 1) → narrow .boolean (.int v) = .int v → J σ.2 (6 * σ.2) (kW aa ad t σ.1 rs) pc L [.int v])  : ∀ (σ : LwS) (v1 : Int32) (v2 : Int32) (v3 : Int32) (v5 : Int32) (v6 : Int32) (v8 : Int32) (v9 : Int32), fL_isPair_215 aa σ v1 v2 v3 v5 v6 v8 v9 = some q → J σ.2 (6 * σ.2) (kW aa ad t σ.1 rs) 215 [(0, .ref (ad 0)), (1, .int v1), (2, .int v2), (3, .int v3), (5, .int v5), (6, .int v6), (8, .int v8), (9, .int v9)] [] := by
  intro σ v1 v2 v3 v5 v6 v8 v9 hf
  unfold fL_isPair_215 at hf
  refine j_iconst (v := 0) (pc := 215) g dL_isPair_215 (by decide) ?_
  refine j_istore (L' := [(10, .int (0 : Int32)), (0, .ref (ad 0)), (1, .int v1), (2, .int v2), (3, .int v3), (5, .int v5), (6, .int v6), (8, .int v8), (9, .int v9)]) (pc := 216) g dL_isPair_216 (Nat.le_of_ble_eq_true rfl) rfl ?_
  refine j_sub (pc := 218) g [1, 2, 3, 4, 5, 6, 7, 8, 0] rfl ?_
  exact tL_isPair_218 hst hxl g hE σ v1 v2 v3 v5 v6 v8 v9 (0 : Int32) hf
set_option maxRecDepth 100000 in
set_option maxHeartbeats 8000000 in
theorem tL_isPair_106 {D : va_G} {t : Nat → ClassId} {aa : gx_AA} {l : Launch} {J : gx_J} {ad : Nat → Nat} {rs : va_W} {q : (Int32 × LwS)} (hst : l.stackTraces = false) (hxl : xL aa < 2 ^ 31) (g : gx_G D t (gx_E0 aa) l ({ frames := 9, cells := 30, slots := 180, locals := 160 }) cL_isPair RL 12 J) (hE : ∀ (v : Int32) (σ : LwS) (pc : Nat) (L : List (Nat × Value)), some (v, σ) = some q → σ.2 ≤ 30 → decode cL_isPair pc = .ok (.ireturn, 1) → narrow .boolean (.int v) = .int v → J σ.2 (6 * σ.2) (kW aa ad t σ.1 rs) pc L [.int v])  : ∀ (σ : LwS) (v1 : Int32) (v2 : Int32) (v3 : Int32) (v5 : Int32) (v6 : Int32), fL_isPair_106 aa σ v1 v2 v3 v5 v6 = some q → J σ.2 (6 * σ.2) (kW aa ad t σ.1 rs) 106 [(0, .ref (ad 0)), (1, .int v1), (2, .int v2), (3, .int v3), (5, .int v5), (6, .int v6)] [] := by
  intro σ v1 v2 v3 v5 v6 hf
  unfold fL_isPair_106 at hf
  refine j_aload_n (pc := 106) g 0 dL_isPair_106 rfl ?_
  refine j_iload_n (pc := 107) g 1 dL_isPair_107 rfl ?_
  refine j_iload_n (pc := 108) g 2 dL_isPair_108 rfl ?_
  obtain ⟨k_109, hf⟩ := gx_ck hf
  obtain ⟨r109, h_109, hf⟩ := gx_bs hf
  refine lc_hoursFor (pc := 109) g (M := 30) ⟨(Nat.le_of_ble_eq_true rfl), (Nat.le_of_ble_eq_true rfl)⟩ hst k_109 h_109 (.refl _) (.refl _) ⟨(Nat.le_of_ble_eq_true rfl), (Nat.le_of_ble_eq_true rfl)⟩ (Nat.le_of_ble_eq_true rfl) dL_isPair_109 ?_
  refine j_istore (L' := [(7, .int r109.1), (0, .ref (ad 0)), (1, .int v1), (2, .int v2), (3, .int v3), (5, .int v5), (6, .int v6)]) (pc := 112) g dL_isPair_112 (Nat.le_of_ble_eq_true rfl) rfl ?_
  refine j_aload_n (pc := 114) g 1 dL_isPair_114 rfl ?_
  refine j_iload_n (pc := 115) g 2 dL_isPair_115 rfl ?_
  refine j_iload_n (pc := 116) g 3 dL_isPair_116 rfl ?_
  obtain ⟨k_117, hf⟩ := gx_ck hf
  obtain ⟨r117, h_117, hf⟩ := gx_bs hf
  refine lc_greatestSeverity (pc := 117) g (M := 30) ⟨(Nat.le_of_ble_eq_true rfl), (Nat.le_of_ble_eq_true rfl)⟩ hst k_117 h_117 (.refl _) (.refl _) ⟨(Nat.le_of_ble_eq_true rfl), (Nat.le_of_ble_eq_true rfl)⟩ (Nat.le_of_ble_eq_true rfl) dL_isPair_117 ?_
  refine j_istore (L' := [(8, .int r117.1), (7, .int r109.1), (0, .ref (ad 0)), (1, .int v1), (2, .int v2), (3, .int v3), (5, .int v5), (6, .int v6)]) (pc := 120) g dL_isPair_120 (Nat.le_of_ble_eq_true rfl) rfl ?_
  refine j_aload_n (pc := 122) g 2 dL_isPair_122 rfl ?_
  refine j_iload_n (pc := 123) g 3 dL_isPair_123 rfl ?_
  refine j_iload_n (pc := 124) g 4 dL_isPair_124 rfl ?_
  refine j_iload_n (pc := 125) g 5 dL_isPair_125 rfl ?_
  obtain ⟨k_126, hf⟩ := gx_ck hf
  obtain ⟨r126, h_126, hf⟩ := gx_bs hf
  refine lc_firstRefusal (pc := 126) g (M := 30) ⟨(Nat.le_of_ble_eq_true rfl), (Nat.le_of_ble_eq_true rfl)⟩ hst k_126 h_126 (.refl _) (.refl _) ⟨(Nat.le_of_ble_eq_true rfl), (Nat.le_of_ble_eq_true rfl)⟩ (Nat.le_of_ble_eq_true rfl) dL_isPair_126 ?_
  refine j_istore (L' := [(9, .int r126.1), (8, .int r117.1), (7, .int r109.1), (0, .ref (ad 0)), (1, .int v1), (2, .int v2), (3, .int v3), (5, .int v5), (6, .int v6)]) (pc := 129) g dL_isPair_129 (Nat.le_of_ble_eq_true rfl) rfl ?_
  refine j_iload (pc := 131) g 7 dL_isPair_131 rfl ?_
  refine j_if_eq (tgt := 186) (pc := 133) g dL_isPair_133 (by decide) (fun c_133 => ?_) (fun c_133 => ?_)
  · have hf := gx_it c_133 hf
    refine j_iload (pc := 186) g 2 dL_isPair_186 rfl ?_
    refine j_bipush (v := -79) (pc := 188) g dL_isPair_188 (by decide) ?_
    refine j_icmp_ne (tgt := 215) (pc := 190) g dL_isPair_190 (by decide) (fun c_190 => ?_) (fun c_190 => ?_)
    · have hf := gx_if c_190 hf
      refine j_sub (pc := 215) g [3, 4, 5, 6, 7, 8, 1, 0] rfl ?_
      exact tL_isPair_215 hst hxl g hE (r126.2, ((σ.2 + 1) + 1) + 1) v1 v2 v3 v5 v6 r117.1 r126.1 hf
    · have hf := gx_it c_190 hf
      refine j_iload (pc := 193) g 1 dL_isPair_193 rfl ?_
      refine j_bipush (v := -79) (pc := 195) g dL_isPair_195 (by decide) ?_
      refine j_icmp_ne (tgt := 215) (pc := 197) g dL_isPair_197 (by decide) (fun c_197 => ?_) (fun c_197 => ?_)
      · have hf := gx_if c_197 hf
        refine j_sub (pc := 215) g [3, 4, 5, 6, 7, 8, 1, 0] rfl ?_
        exact tL_isPair_215 hst hxl g hE (r126.2, ((σ.2 + 1) + 1) + 1) v1 v2 v3 v5 v6 r117.1 r126.1 hf
      · have hf := gx_it c_197 hf
        refine j_aload_n (pc := 200) g 3 dL_isPair_200 rfl ?_
        refine j_iload_n (pc := 201) g 4 dL_isPair_201 rfl ?_
        refine j_iload_n (pc := 202) g 5 dL_isPair_202 rfl ?_
        obtain ⟨k_203, hf⟩ := gx_ck hf
        obtain ⟨r203, h_203, hf⟩ := gx_bs hf
        refine lc_greatestSeverityByTrial (pc := 203) g (M := 30) ⟨(Nat.le_of_ble_eq_true rfl), (Nat.le_of_ble_eq_true rfl)⟩ hst k_203 h_203 (.refl _) (.refl _) ⟨(Nat.le_of_ble_eq_true rfl), (Nat.le_of_ble_eq_true rfl)⟩ (Nat.le_of_ble_eq_true rfl) dL_isPair_203 ?_
        refine j_bipush (v := -79) (pc := 206) g dL_isPair_206 (by decide) ?_
        refine j_icmp_ne (tgt := 215) (pc := 208) g dL_isPair_208 (by decide) (fun c_208 => ?_) (fun c_208 => ?_)
        · have hf := gx_if c_208 hf
          refine j_sub (pc := 215) g [3, 4, 5, 6, 7, 8, 1, 0] rfl ?_
          exact tL_isPair_215 hst hxl g hE (r203.2, (((σ.2 + 1) + 1) + 1) + 1) v1 v2 v3 v5 v6 r117.1 r126.1 hf
        · have hf := gx_it c_208 hf
          refine j_iconst (v := 1) (pc := 211) g dL_isPair_211 (by decide) ?_
          refine j_goto (tgt := 216) (pc := 212) g dL_isPair_212 (by decide) ?_
          refine j_istore (L' := [(10, .int (1 : Int32)), (9, .int r126.1), (8, .int r117.1), (7, .int r109.1), (0, .ref (ad 0)), (1, .int v1), (2, .int v2), (3, .int v3), (5, .int v5), (6, .int v6)]) (pc := 216) g dL_isPair_216 (Nat.le_of_ble_eq_true rfl) rfl ?_
          refine j_sub (pc := 218) g [4, 5, 6, 7, 8, 9, 2, 1, 0] rfl ?_
          exact tL_isPair_218 hst hxl g hE (r203.2, (((σ.2 + 1) + 1) + 1) + 1) v1 v2 v3 v5 v6 r117.1 r126.1 (1 : Int32) hf
  · have hf := gx_if c_133 hf
    refine j_iload (pc := 136) g 2 dL_isPair_136 rfl ?_
    refine j_aload_n (pc := 138) g 3 dL_isPair_138 rfl ?_
    refine j_iload_n (pc := 139) g 5 dL_isPair_139 rfl ?_
    obtain ⟨k_140, hf⟩ := gx_ck hf
    obtain ⟨r140, h_140, hf⟩ := gx_bs hf
    refine lc_depth (pc := 140) g (M := 30) ⟨(Nat.le_of_ble_eq_true rfl), (Nat.le_of_ble_eq_true rfl)⟩ hst k_140 h_140 (.refl _) (.refl _) ⟨(Nat.le_of_ble_eq_true rfl), (Nat.le_of_ble_eq_true rfl)⟩ (Nat.le_of_ble_eq_true rfl) dL_isPair_140 ?_
    refine j_aload_n (pc := 143) g 3 dL_isPair_143 rfl ?_
    refine j_iload_n (pc := 144) g 4 dL_isPair_144 rfl ?_
    obtain ⟨k_145, hf⟩ := gx_ck hf
    obtain ⟨r145, h_145, hf⟩ := gx_bs hf
    refine lc_depth (pc := 145) g (M := 30) ⟨(Nat.le_of_ble_eq_true rfl), (Nat.le_of_ble_eq_true rfl)⟩ hst k_145 h_145 (.refl _) (.refl _) ⟨(Nat.le_of_ble_eq_true rfl), (Nat.le_of_ble_eq_true rfl)⟩ (Nat.le_of_ble_eq_true rfl) dL_isPair_145 ?_
    refine j_isub (pc := 148) g dL_isPair_148 ?_
    refine j_icmp_ne (tgt := 182) (pc := 149) g dL_isPair_149 (by decide) (fun c_149 => ?_) (fun c_149 => ?_)
    · have hf := gx_if c_149 hf
      refine j_sub (pc := 182) g [3, 4, 5, 6, 7, 8, 1, 0] rfl ?_
      exact tL_isPair_182 hst hxl g hE (r145.2, ((((σ.2 + 1) + 1) + 1) + 1) + 1) v1 v2 v3 v5 v6 r117.1 r126.1 hf
    · have hf := gx_it c_149 hf
      refine j_iload (pc := 152) g 1 dL_isPair_152 rfl ?_
      refine j_if_lt (tgt := 182) (pc := 154) g dL_isPair_154 (by decide) (fun c_154 => ?_) (fun c_154 => ?_)
      · have hf := gx_it c_154 hf
        refine j_sub (pc := 182) g [3, 4, 5, 6, 7, 8, 1, 0] rfl ?_
        exact tL_isPair_182 hst hxl g hE (r145.2, ((((σ.2 + 1) + 1) + 1) + 1) + 1) v1 v2 v3 v5 v6 r117.1 r126.1 hf
      · have hf := gx_if c_154 hf
        refine j_iload (pc := 157) g 1 dL_isPair_157 rfl ?_
        refine j_aload_n (pc := 159) g 3 dL_isPair_159 rfl ?_
        refine j_iload_n (pc := 160) g 5 dL_isPair_160 rfl ?_
        obtain ⟨k_161, hf⟩ := gx_ck hf
        obtain ⟨r161, h_161, hf⟩ := gx_bs hf
        refine lc_loyalty (pc := 161) g (M := 30) ⟨(Nat.le_of_ble_eq_true rfl), (Nat.le_of_ble_eq_true rfl)⟩ hst k_161 h_161 (.refl _) (.refl _) ⟨(Nat.le_of_ble_eq_true rfl), (Nat.le_of_ble_eq_true rfl)⟩ (Nat.le_of_ble_eq_true rfl) dL_isPair_161 ?_
        refine j_icmp_gt (tgt := 182) (pc := 164) g dL_isPair_164 (by decide) (fun c_164 => ?_) (fun c_164 => ?_)
        · have hf := gx_it c_164 hf
          refine j_sub (pc := 182) g [3, 4, 5, 6, 7, 8, 1, 0] rfl ?_
          exact tL_isPair_182 hst hxl g hE (r161.2, (((((σ.2 + 1) + 1) + 1) + 1) + 1) + 1) v1 v2 v3 v5 v6 r117.1 r126.1 hf
        · have hf := gx_if c_164 hf
          refine j_aload_n (pc := 167) g 3 dL_isPair_167 rfl ?_
          refine j_iload_n (pc := 168) g 4 dL_isPair_168 rfl ?_
          refine j_iload_n (pc := 169) g 5 dL_isPair_169 rfl ?_
          obtain ⟨k_170, hf⟩ := gx_ck hf
          obtain ⟨r170, h_170, hf⟩ := gx_bs hf
          refine lc_greatestSeverityByTrial (pc := 170) g (M := 30) ⟨(Nat.le_of_ble_eq_true rfl), (Nat.le_of_ble_eq_true rfl)⟩ hst k_170 h_170 (.refl _) (.refl _) ⟨(Nat.le_of_ble_eq_true rfl), (Nat.le_of_ble_eq_true rfl)⟩ (Nat.le_of_ble_eq_true rfl) dL_isPair_170 ?_
          refine j_iload (pc := 173) g 1 dL_isPair_173 rfl ?_
          refine j_icmp_ne (tgt := 182) (pc := 175) g dL_isPair_175 (by decide) (fun c_175 => ?_) (fun c_175 => ?_)
          · have hf := gx_if c_175 hf
            refine j_sub (pc := 182) g [3, 4, 5, 6, 7, 8, 1, 0] rfl ?_
            exact tL_isPair_182 hst hxl g hE (r170.2, ((((((σ.2 + 1) + 1) + 1) + 1) + 1) + 1) + 1) v1 v2 v3 v5 v6 r117.1 r126.1 hf
          · have hf := gx_it c_175 hf
            refine j_iconst (v := 1) (pc := 178) g dL_isPair_178 (by decide) ?_
            refine j_goto (tgt := 216) (pc := 179) g dL_isPair_179 (by decide) ?_
            refine j_istore (L' := [(10, .int (1 : Int32)), (9, .int r126.1), (8, .int r117.1), (7, .int r109.1), (0, .ref (ad 0)), (1, .int v1), (2, .int v2), (3, .int v3), (5, .int v5), (6, .int v6)]) (pc := 216) g dL_isPair_216 (Nat.le_of_ble_eq_true rfl) rfl ?_
            refine j_sub (pc := 218) g [4, 5, 6, 7, 8, 9, 2, 1, 0] rfl ?_
            exact tL_isPair_218 hst hxl g hE (r170.2, ((((((σ.2 + 1) + 1) + 1) + 1) + 1) + 1) + 1) v1 v2 v3 v5 v6 r117.1 r126.1 (1 : Int32) hf
set_option maxRecDepth 100000 in
set_option maxHeartbeats 8000000 in
theorem tL_isPair_103 {D : va_G} {t : Nat → ClassId} {aa : gx_AA} {l : Launch} {J : gx_J} {ad : Nat → Nat} {rs : va_W} {q : (Int32 × LwS)} (hst : l.stackTraces = false) (hxl : xL aa < 2 ^ 31) (g : gx_G D t (gx_E0 aa) l ({ frames := 9, cells := 30, slots := 180, locals := 160 }) cL_isPair RL 12 J) (hE : ∀ (v : Int32) (σ : LwS) (pc : Nat) (L : List (Nat × Value)), some (v, σ) = some q → σ.2 ≤ 30 → decode cL_isPair pc = .ok (.ireturn, 1) → narrow .boolean (.int v) = .int v → J σ.2 (6 * σ.2) (kW aa ad t σ.1 rs) pc L [.int v])  : ∀ (σ : LwS) (v1 : Int32) (v2 : Int32) (v3 : Int32) (v5 : Int32), fL_isPair_103 aa σ v1 v2 v3 v5 = some q → J σ.2 (6 * σ.2) (kW aa ad t σ.1 rs) 103 [(0, .ref (ad 0)), (1, .int v1), (2, .int v2), (3, .int v3), (5, .int v5)] [] := by
  intro σ v1 v2 v3 v5 hf
  unfold fL_isPair_103 at hf
  refine j_iconst (v := 0) (pc := 103) g dL_isPair_103 (by decide) ?_
  refine j_istore (L' := [(6, .int (0 : Int32)), (0, .ref (ad 0)), (1, .int v1), (2, .int v2), (3, .int v3), (5, .int v5)]) (pc := 104) g dL_isPair_104 (Nat.le_of_ble_eq_true rfl) rfl ?_
  refine j_sub (pc := 106) g [1, 2, 3, 4, 5, 0] rfl ?_
  exact tL_isPair_106 hst hxl g hE σ v1 v2 v3 v5 (0 : Int32) hf
set_option maxRecDepth 100000 in
set_option maxHeartbeats 8000000 in
theorem tL_isPair_80 {D : va_G} {t : Nat → ClassId} {aa : gx_AA} {l : Launch} {J : gx_J} {ad : Nat → Nat} {rs : va_W} {q : (Int32 × LwS)} (hst : l.stackTraces = false) (hxl : xL aa < 2 ^ 31) (g : gx_G D t (gx_E0 aa) l ({ frames := 9, cells := 30, slots := 180, locals := 160 }) cL_isPair RL 12 J) (hE : ∀ (v : Int32) (σ : LwS) (pc : Nat) (L : List (Nat × Value)), some (v, σ) = some q → σ.2 ≤ 30 → decode cL_isPair pc = .ok (.ireturn, 1) → narrow .boolean (.int v) = .int v → J σ.2 (6 * σ.2) (kW aa ad t σ.1 rs) pc L [.int v])  : ∀ (σ : LwS) (v1 : Int32) (v2 : Int32) (v3 : Int32) (v4 : Int32) (v5 : Int32), fL_isPair_80 aa σ v1 v2 v3 v4 v5 = some q → J σ.2 (6 * σ.2) (kW aa ad t σ.1 rs) 80 [(0, .ref (ad 0)), (1, .int v1), (2, .int v2), (3, .int v3), (4, .int v4), (5, .int v5)] [] := by
  intro σ v1 v2 v3 v4 v5 hf
  unfold fL_isPair_80 at hf
  refine j_iconst (v := 1) (pc := 80) g dL_isPair_80 (by decide) ?_
  refine j_goto (tgt := 85) (pc := 81) g dL_isPair_81 (by decide) ?_
  refine j_iload (pc := 85) g 4 dL_isPair_85 rfl ?_
  refine j_iload_n (pc := 87) g 1 dL_isPair_87 rfl ?_
  refine j_icmp_ne (tgt := 95) (pc := 88) g dL_isPair_88 (by decide) (fun c_88 => ?_) (fun c_88 => ?_)
  · have hf := gx_if c_88 hf
    refine j_iconst (v := 0) (pc := 95) g dL_isPair_95 (by decide) ?_
    refine j_icmp_ne (tgt := 103) (pc := 96) g dL_isPair_96 (by decide) (fun _ => ?_) (fun h => absurd h (by decide))
    refine j_sub (pc := 103) g [0, 1, 2, 3, 5] rfl ?_
    exact tL_isPair_103 hst hxl g hE σ v1 v2 v3 v5 hf
  · have hf := gx_it c_88 hf
    refine j_iconst (v := 1) (pc := 91) g dL_isPair_91 (by decide) ?_
    refine j_goto (tgt := 96) (pc := 92) g dL_isPair_92 (by decide) ?_
    refine j_icmp_ne (tgt := 103) (pc := 96) g dL_isPair_96 (by decide) (fun h => absurd h (by decide)) (fun _ => ?_)
    refine j_iconst (v := 1) (pc := 99) g dL_isPair_99 (by decide) ?_
    refine j_goto (tgt := 104) (pc := 100) g dL_isPair_100 (by decide) ?_
    refine j_istore (L' := [(6, .int (1 : Int32)), (0, .ref (ad 0)), (1, .int v1), (2, .int v2), (3, .int v3), (4, .int v4), (5, .int v5)]) (pc := 104) g dL_isPair_104 (Nat.le_of_ble_eq_true rfl) rfl ?_
    refine j_sub (pc := 106) g [1, 2, 3, 4, 6, 0] rfl ?_
    exact tL_isPair_106 hst hxl g hE σ v1 v2 v3 v5 (1 : Int32) hf
set_option maxRecDepth 100000 in
set_option maxHeartbeats 8000000 in
theorem tL_isPair_70 {D : va_G} {t : Nat → ClassId} {aa : gx_AA} {l : Launch} {J : gx_J} {ad : Nat → Nat} {rs : va_W} {q : (Int32 × LwS)} (hst : l.stackTraces = false) (hxl : xL aa < 2 ^ 31) (g : gx_G D t (gx_E0 aa) l ({ frames := 9, cells := 30, slots := 180, locals := 160 }) cL_isPair RL 12 J) (hE : ∀ (v : Int32) (σ : LwS) (pc : Nat) (L : List (Nat × Value)), some (v, σ) = some q → σ.2 ≤ 30 → decode cL_isPair pc = .ok (.ireturn, 1) → narrow .boolean (.int v) = .int v → J σ.2 (6 * σ.2) (kW aa ad t σ.1 rs) pc L [.int v])  : ∀ (σ : LwS) (v1 : Int32) (v2 : Int32) (v3 : Int32) (v4 : Int32) (v5 : Int32), fL_isPair_70 aa σ v1 v2 v3 v4 v5 = some q → J σ.2 (6 * σ.2) (kW aa ad t σ.1 rs) 70 [(0, .ref (ad 0)), (1, .int v1), (2, .int v2), (3, .int v3), (4, .int v4), (5, .int v5)] [] := by
  intro σ v1 v2 v3 v4 v5 hf
  unfold fL_isPair_70 at hf
  refine j_iload (pc := 70) g 5 dL_isPair_70 rfl ?_
  refine j_if_ne (tgt := 80) (pc := 72) g dL_isPair_72 (by decide) (fun c_72 => ?_) (fun c_72 => ?_)
  · have hf := gx_if c_72 hf
    refine j_sub (pc := 80) g [0, 1, 2, 3, 4, 5] rfl ?_
    exact tL_isPair_80 hst hxl g hE σ v1 v2 v3 v4 v5 hf
  · have hf := gx_it c_72 hf
    refine j_iload_n (pc := 75) g 1 dL_isPair_75 rfl ?_
    refine j_iload_n (pc := 76) g 2 dL_isPair_76 rfl ?_
    refine j_icmp_ne (tgt := 84) (pc := 77) g dL_isPair_77 (by decide) (fun c_77 => ?_) (fun c_77 => ?_)
    · have hf := gx_if c_77 hf
      refine j_iconst (v := 0) (pc := 84) g dL_isPair_84 (by decide) ?_
      refine j_iload (pc := 85) g 4 dL_isPair_85 rfl ?_
      refine j_iload_n (pc := 87) g 1 dL_isPair_87 rfl ?_
      refine j_icmp_ne (tgt := 95) (pc := 88) g dL_isPair_88 (by decide) (fun c_88 => ?_) (fun c_88 => ?_)
      · have hf := gx_if c_88 hf
        refine j_iconst (v := 0) (pc := 95) g dL_isPair_95 (by decide) ?_
        refine j_icmp_ne (tgt := 103) (pc := 96) g dL_isPair_96 (by decide) (fun h => absurd h (by decide)) (fun _ => ?_)
        refine j_iconst (v := 1) (pc := 99) g dL_isPair_99 (by decide) ?_
        refine j_goto (tgt := 104) (pc := 100) g dL_isPair_100 (by decide) ?_
        refine j_istore (L' := [(6, .int (1 : Int32)), (0, .ref (ad 0)), (1, .int v1), (2, .int v2), (3, .int v3), (4, .int v4), (5, .int v5)]) (pc := 104) g dL_isPair_104 (Nat.le_of_ble_eq_true rfl) rfl ?_
        refine j_sub (pc := 106) g [1, 2, 3, 4, 6, 0] rfl ?_
        exact tL_isPair_106 hst hxl g hE σ v1 v2 v3 v5 (1 : Int32) hf
      · have hf := gx_it c_88 hf
        refine j_iconst (v := 1) (pc := 91) g dL_isPair_91 (by decide) ?_
        refine j_goto (tgt := 96) (pc := 92) g dL_isPair_92 (by decide) ?_
        refine j_icmp_ne (tgt := 103) (pc := 96) g dL_isPair_96 (by decide) (fun _ => ?_) (fun h => absurd h (by decide))
        refine j_sub (pc := 103) g [0, 1, 2, 3, 5] rfl ?_
        exact tL_isPair_103 hst hxl g hE σ v1 v2 v3 v5 hf
    · have hf := gx_it c_77 hf
      refine j_sub (pc := 80) g [0, 1, 2, 3, 4, 5] rfl ?_
      exact tL_isPair_80 hst hxl g hE σ v1 v2 v3 v4 v5 hf
set_option maxRecDepth 100000 in
set_option maxHeartbeats 8000000 in
theorem tL_isPair_53 {D : va_G} {t : Nat → ClassId} {aa : gx_AA} {l : Launch} {J : gx_J} {ad : Nat → Nat} {rs : va_W} {q : (Int32 × LwS)} (hst : l.stackTraces = false) (hxl : xL aa < 2 ^ 31) (g : gx_G D t (gx_E0 aa) l ({ frames := 9, cells := 30, slots := 180, locals := 160 }) cL_isPair RL 12 J) (hE : ∀ (v : Int32) (σ : LwS) (pc : Nat) (L : List (Nat × Value)), some (v, σ) = some q → σ.2 ≤ 30 → decode cL_isPair pc = .ok (.ireturn, 1) → narrow .boolean (.int v) = .int v → J σ.2 (6 * σ.2) (kW aa ad t σ.1 rs) pc L [.int v])  : ∀ (σ : LwS) (v1 : Int32) (v2 : Int32) (v3 : Int32) (v4 : Int32) (v5 : Int32), fL_isPair_53 aa σ v1 v2 v3 v4 v5 = some q → J σ.2 (6 * σ.2) (kW aa ad t σ.1 rs) 53 [(0, .ref (ad 0)), (1, .int v1), (2, .int v2), (3, .int v3), (4, .int v4), (5, .int v5)] [] := by
  intro σ v1 v2 v3 v4 v5 hf
  unfold fL_isPair_53 at hf
  refine j_iload (pc := 53) g 4 dL_isPair_53 rfl ?_
  refine j_iload_n (pc := 55) g 2 dL_isPair_55 rfl ?_
  refine j_icmp_eq (tgt := 70) (pc := 56) g dL_isPair_56 (by decide) (fun c_56 => ?_) (fun c_56 => ?_)
  · have hf := gx_it c_56 hf
    refine j_sub (pc := 70) g [0, 1, 2, 3, 4, 5] rfl ?_
    exact tL_isPair_70 hst hxl g hE σ v1 v2 v3 v4 v5 hf
  · have hf := gx_if c_56 hf
    refine j_aload_n (pc := 59) g 0 dL_isPair_59 rfl ?_
    refine j_iload (pc := 60) g 4 dL_isPair_60 rfl ?_
    refine j_iload_n (pc := 62) g 2 dL_isPair_62 rfl ?_
    obtain ⟨k_63, hf⟩ := gx_ck hf
    obtain ⟨r63, h_63, hf⟩ := gx_bs hf
    refine lc_isAbove (pc := 63) g (M := 30) ⟨(Nat.le_of_ble_eq_true rfl), (Nat.le_of_ble_eq_true rfl)⟩ hst k_63 h_63 (.refl _) (.refl _) ⟨(Nat.le_of_ble_eq_true rfl), (Nat.le_of_ble_eq_true rfl)⟩ (Nat.le_of_ble_eq_true rfl) dL_isPair_63 ?_
    refine j_iconst (v := 1) (pc := 66) g dL_isPair_66 (by decide) ?_
    refine j_icmp_ne (tgt := 103) (pc := 67) g dL_isPair_67 (by decide) (fun c_67 => ?_) (fun c_67 => ?_)
    · have hf := gx_if c_67 hf
      refine j_sub (pc := 103) g [0, 1, 2, 3, 5] rfl ?_
      exact tL_isPair_103 hst hxl g hE (r63.2, σ.2 + 1) v1 v2 v3 v5 hf
    · have hf := gx_it c_67 hf
      refine j_sub (pc := 70) g [0, 1, 2, 3, 4, 5] rfl ?_
      exact tL_isPair_70 hst hxl g hE (r63.2, σ.2 + 1) v1 v2 v3 v4 v5 hf
set_option maxRecDepth 100000 in
set_option maxHeartbeats 8000000 in
theorem tL_isPair_25 {D : va_G} {t : Nat → ClassId} {aa : gx_AA} {l : Launch} {J : gx_J} {ad : Nat → Nat} {rs : va_W} {q : (Int32 × LwS)} (hst : l.stackTraces = false) (hxl : xL aa < 2 ^ 31) (g : gx_G D t (gx_E0 aa) l ({ frames := 9, cells := 30, slots := 180, locals := 160 }) cL_isPair RL 12 J) (hE : ∀ (v : Int32) (σ : LwS) (pc : Nat) (L : List (Nat × Value)), some (v, σ) = some q → σ.2 ≤ 30 → decode cL_isPair pc = .ok (.ireturn, 1) → narrow .boolean (.int v) = .int v → J σ.2 (6 * σ.2) (kW aa ad t σ.1 rs) pc L [.int v])  : ∀ (σ : LwS) (v1 : Int32) (v2 : Int32) (v3 : Int32) (v4 : Int32) (v5 : Int32), fL_isPair_25 aa σ v1 v2 v3 v4 v5 = some q → J σ.2 (6 * σ.2) (kW aa ad t σ.1 rs) 25 [(0, .ref (ad 0)), (1, .int v1), (2, .int v2), (3, .int v3), (4, .int v4), (5, .int v5)] [] := by
  intro σ v1 v2 v3 v4 v5 hf
  unfold fL_isPair_25 at hf
  refine j_iload (pc := 25) g 4 dL_isPair_25 rfl ?_
  refine j_aload_n (pc := 27) g 0 dL_isPair_27 rfl ?_
  refine j_iload_n (pc := 28) g 2 dL_isPair_28 rfl ?_
  refine j_iload_n (pc := 29) g 1 dL_isPair_29 rfl ?_
  obtain ⟨k_30, hf⟩ := gx_ck hf
  obtain ⟨r30, h_30, hf⟩ := gx_bs hf
  refine lc_commonSuperior (pc := 30) g (M := 30) ⟨(Nat.le_of_ble_eq_true rfl), (Nat.le_of_ble_eq_true rfl)⟩ hst k_30 h_30 (.refl _) (.refl _) ⟨(Nat.le_of_ble_eq_true rfl), (Nat.le_of_ble_eq_true rfl)⟩ (Nat.le_of_ble_eq_true rfl) dL_isPair_30 ?_
  refine j_icmp_ne (tgt := 103) (pc := 33) g dL_isPair_33 (by decide) (fun c_33 => ?_) (fun c_33 => ?_)
  · have hf := gx_if c_33 hf
    refine j_sub (pc := 103) g [0, 1, 2, 3, 5] rfl ?_
    exact tL_isPair_103 hst hxl g hE (r30.2, σ.2 + 1) v1 v2 v3 v5 hf
  · have hf := gx_it c_33 hf
    refine j_iload (pc := 36) g 4 dL_isPair_36 rfl ?_
    refine j_iload_n (pc := 38) g 1 dL_isPair_38 rfl ?_
    refine j_icmp_eq (tgt := 53) (pc := 39) g dL_isPair_39 (by decide) (fun c_39 => ?_) (fun c_39 => ?_)
    · have hf := gx_it c_39 hf
      refine j_sub (pc := 53) g [0, 1, 2, 3, 4, 5] rfl ?_
      exact tL_isPair_53 hst hxl g hE (r30.2, σ.2 + 1) v1 v2 v3 v4 v5 hf
    · have hf := gx_if c_39 hf
      refine j_aload_n (pc := 42) g 0 dL_isPair_42 rfl ?_
      refine j_iload (pc := 43) g 4 dL_isPair_43 rfl ?_
      refine j_iload_n (pc := 45) g 1 dL_isPair_45 rfl ?_
      obtain ⟨k_46, hf⟩ := gx_ck hf
      obtain ⟨r46, h_46, hf⟩ := gx_bs hf
      refine lc_isAbove (pc := 46) g (M := 30) ⟨(Nat.le_of_ble_eq_true rfl), (Nat.le_of_ble_eq_true rfl)⟩ hst k_46 h_46 (.refl _) (.refl _) ⟨(Nat.le_of_ble_eq_true rfl), (Nat.le_of_ble_eq_true rfl)⟩ (Nat.le_of_ble_eq_true rfl) dL_isPair_46 ?_
      refine j_iconst (v := 1) (pc := 49) g dL_isPair_49 (by decide) ?_
      refine j_icmp_ne (tgt := 103) (pc := 50) g dL_isPair_50 (by decide) (fun c_50 => ?_) (fun c_50 => ?_)
      · have hf := gx_if c_50 hf
        refine j_sub (pc := 103) g [0, 1, 2, 3, 5] rfl ?_
        exact tL_isPair_103 hst hxl g hE (r46.2, (σ.2 + 1) + 1) v1 v2 v3 v5 hf
      · have hf := gx_it c_50 hf
        refine j_sub (pc := 53) g [0, 1, 2, 3, 4, 5] rfl ?_
        exact tL_isPair_53 hst hxl g hE (r46.2, (σ.2 + 1) + 1) v1 v2 v3 v4 v5 hf
set_option maxRecDepth 100000 in
set_option maxHeartbeats 8000000 in
theorem cL_isPair_ {D : va_G} {t : Nat → ClassId} {aa : gx_AA} {l : Launch} {ad : Nat → Nat} {rs : va_W} {σ : CS} {p1 : Int32} {p2 : Int32} {p3 : Int32} {q : (Int32 × LwS)} (hst : l.stackTraces = false) (hxl : xL aa < 2 ^ 31) (hf : fL_isPair aa σ p1 p2 p3 = some q) : gx_CM D t (gx_E0 aa) l yL_isPair cL_isPair 12 (some .boolean) 9 160 30 (6 * 30) [.ref (ad 0), .int p1, .int p2, .int p3] (kW aa ad t σ rs) (kW aa ad t q.2.1 rs) (some (.int q.1)) := by
  refine gx_intro_mi (by decide) (Nat.le_of_ble_eq_true rfl) (fun J g0 hE0 => ?_)
  have g : gx_G D t (gx_E0 aa) l ({ frames := 9, cells := 30, slots := 180, locals := 160 }) cL_isPair RL 12 J := g0
  have hE : ∀ (v : Int32) (σ : LwS) (pc : Nat) (L : List (Nat × Value)), some (v, σ) = some q → σ.2 ≤ 30 → decode cL_isPair pc = .ok (.ireturn, 1) → narrow .boolean (.int v) = .int v → J σ.2 (6 * σ.2) (kW aa ad t σ.1 rs) pc L [.int v] := fun v σ pc L h h0 h1 h2 => by cases h; exact j_wid g h0 (Nat.mul_le_mul_left 6 h0) (hE0 pc L h1 h2)
  unfold fL_isPair at hf
  show J 0 (6 * 0) (kW aa ad t σ rs) 0 [(0, .ref (ad 0)), (1, .int p1), (2, .int p2), (3, .int p3)] []
  refine j_aload_n (pc := 0) g 0 dL_isPair_0 rfl ?_
  refine j_iload_n (pc := 1) g 1 dL_isPair_1 rfl ?_
  refine j_iload_n (pc := 2) g 2 dL_isPair_2 rfl ?_
  obtain ⟨k_3, hf⟩ := gx_ck hf
  obtain ⟨r3, h_3, hf⟩ := gx_bs hf
  refine lc_commonSuperior (pc := 3) g (M := 30) ⟨(Nat.le_of_ble_eq_true rfl), (Nat.le_of_ble_eq_true rfl)⟩ hst k_3 h_3 (.refl _) (.refl _) ⟨(Nat.le_of_ble_eq_true rfl), (Nat.le_of_ble_eq_true rfl)⟩ (Nat.le_of_ble_eq_true rfl) dL_isPair_3 ?_
  refine j_istore (L' := [(4, .int r3.1), (0, .ref (ad 0)), (1, .int p1), (2, .int p2), (3, .int p3)]) (pc := 6) g dL_isPair_6 (Nat.le_of_ble_eq_true rfl) rfl ?_
  refine j_aload_n (pc := 8) g 1 dL_isPair_8 rfl ?_
  refine j_iload_n (pc := 9) g 2 dL_isPair_9 rfl ?_
  refine j_iload_n (pc := 10) g 3 dL_isPair_10 rfl ?_
  obtain ⟨k_11, hf⟩ := gx_ck hf
  obtain ⟨r11, h_11, hf⟩ := gx_bs hf
  refine lc_isAbove (pc := 11) g (M := 30) ⟨(Nat.le_of_ble_eq_true rfl), (Nat.le_of_ble_eq_true rfl)⟩ hst k_11 h_11 (.refl _) (.refl _) ⟨(Nat.le_of_ble_eq_true rfl), (Nat.le_of_ble_eq_true rfl)⟩ (Nat.le_of_ble_eq_true rfl) dL_isPair_11 ?_
  refine j_iconst (v := 1) (pc := 14) g dL_isPair_14 (by decide) ?_
  refine j_icmp_ne (tgt := 22) (pc := 15) g dL_isPair_15 (by decide) (fun c_15 => ?_) (fun c_15 => ?_)
  · have hf := gx_if c_15 hf
    refine j_iconst (v := 0) (pc := 22) g dL_isPair_22 (by decide) ?_
    refine j_istore (L' := [(5, .int (0 : Int32)), (4, .int r3.1), (0, .ref (ad 0)), (1, .int p1), (2, .int p2), (3, .int p3)]) (pc := 23) g dL_isPair_23 (Nat.le_of_ble_eq_true rfl) rfl ?_
    refine j_sub (pc := 25) g [2, 3, 4, 5, 1, 0] rfl ?_
    exact tL_isPair_25 hst hxl g hE (r11.2, (0 + 1) + 1) p1 p2 p3 r3.1 (0 : Int32) hf
  · have hf := gx_it c_15 hf
    refine j_iconst (v := 1) (pc := 18) g dL_isPair_18 (by decide) ?_
    refine j_goto (tgt := 23) (pc := 19) g dL_isPair_19 (by decide) ?_
    refine j_istore (L' := [(5, .int (1 : Int32)), (4, .int r3.1), (0, .ref (ad 0)), (1, .int p1), (2, .int p2), (3, .int p3)]) (pc := 23) g dL_isPair_23 (Nat.le_of_ble_eq_true rfl) rfl ?_
    refine j_sub (pc := 25) g [2, 3, 4, 5, 1, 0] rfl ?_
    exact tL_isPair_25 hst hxl g hE (r11.2, (0 + 1) + 1) p1 p2 p3 r3.1 (1 : Int32) hf
