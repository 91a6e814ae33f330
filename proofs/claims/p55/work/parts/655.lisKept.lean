theorem lv_save {D : va_G} {t : Nat → ClassId} {aa : gx_AA} {l : Launch} {R : Room} {cc : ByteArray} {nL : Nat} {J : gx_J} {ad : Nat → Nat} {rs w w' : va_W} {κ pc : Nat} {L : List (Nat × Value)} {rest : List Value} (g : gx_G D t (gx_E0 aa) l R cc RL nL J) {M : Nat} (hM : M ≤ R.cells ∧ 6 * M ≤ R.slots) (hk : κ ≤ M) {σ : CS} {q : (Int32 × CS)} (hf : fX8_save σ = some q) {ci q0 : Nat} {fs : List Value} (hci : ci = 9) (he : w[q0]? = some (ad 0, .inr (9, fs))) (hp : w.Perm (kW aa ad t σ rs)) (hp' : (kW aa ad t q.2 rs).Perm w') (hR : 3 + 1 ≤ R.frames ∧ 8 + (1 + 11) + 83 ≤ R.locals) (hcat : (rest.map fun v => v.category).sum ≤ 8) (hd : decode cc pc = .ok (.invokevirtual 354, 3)) (kk : J κ (6 * κ) w' (pc + 3) L (.int q.1 :: rest)) : J κ (6 * κ) w pc L (.ref (ad 0) :: rest) := j_callVi (na := 0) (As := []) (ci := 9) g (cX8_save_ (rs := rs) hf) q_i_X8_save q_s_X8_save rfl rfl he q_c_X8_save q_l_L_354 q_n_X8 (by decide +kernel) rfl hR (lk_le hM hk) hcat hp hp' hd kk rfl
theorem lv_undoCount {D : va_G} {t : Nat → ClassId} {aa : gx_AA} {l : Launch} {R : Room} {cc : ByteArray} {nL : Nat} {J : gx_J} {ad : Nat → Nat} {rs w w' : va_W} {κ pc : Nat} {L : List (Nat × Value)} {rest : List Value} (g : gx_G D t (gx_E0 aa) l R cc RL nL J) {M : Nat} (hM : M ≤ R.cells ∧ 6 * M ≤ R.slots) (hk : κ ≤ M) {σ : CS} {q : Int32} (hf : fX8_undoCount σ = some q) {ci q0 : Nat} {fs : List Value} (hci : ci = 9) (he : w[q0]? = some (ad 0, .inr (9, fs))) (hp : w.Perm (kW aa ad t σ rs)) (hp' : (kW aa ad t σ rs).Perm w') (hR : 0 + 1 ≤ R.frames ∧ 8 + (1 + 11) + 0 ≤ R.locals) (hcat : (rest.map fun v => v.category).sum ≤ 8) (hd : decode cc pc = .ok (.invokevirtual 175, 3)) (kk : J κ (6 * κ) w' (pc + 3) L (.int q :: rest)) : J κ (6 * κ) w pc L (.ref (ad 0) :: rest) := j_callVi (na := 0) (As := []) (ci := 9) g (cX8_undoCount_ (rs := rs) hf) q_i_X8_undoCount q_s_X8_undoCount rfl rfl he q_c_X8_undoCount q_l_L_175 q_n_X8 (by decide +kernel) rfl hR (lk_le hM hk) hcat hp hp' hd kk rfl
theorem lc_undo {D : va_G} {t : Nat → ClassId} {aa : gx_AA} {l : Launch} {R : Room} {cc : ByteArray} {nL : Nat} {J : gx_J} {ad : Nat → Nat} {rs w w' : va_W} {κ pc : Nat} {L : List (Nat × Value)} {rest : List Value} (g : gx_G D t (gx_E0 aa) l R cc RL nL J) {M : Nat} (hM : M ≤ R.cells ∧ 6 * M ≤ R.slots) (hst : l.stackTraces = false) (hk : κ + 1 ≤ M) {σ : CS} {q : (Int32 × CS)} (hf : fL_undo σ = some q) (hp : w.Perm (kW aa ad t σ rs)) (hp' : (kW aa ad t q.2 rs).Perm w') (hR : 7 + 1 ≤ R.frames ∧ 8 + (2 + 11) + 111 ≤ R.locals) (hcat : (rest.map fun v => v.category).sum ≤ 8) (hd : decode cc pc = .ok (.invokestatic 360, 3)) (kk : J (κ + 1) (6 * (κ + 1)) w' (pc + 3) L (.int q.1 :: rest)) : J κ (6 * κ) w pc L (.ref (ad 0) :: rest) := j_callH (na := 1) (As := [.ref (ad 0)]) g (hL_undo_ (rs := rs) hst hf) q_t_L_undo q_w_L_undo q_l_L_360 q_n_L (by decide) (by decide +kernel) rfl hR (lk_add hM hk) hcat hp hp' hd kk rfl
theorem lc_restore {D : va_G} {t : Nat → ClassId} {aa : gx_AA} {l : Launch} {R : Room} {cc : ByteArray} {nL : Nat} {J : gx_J} {ad : Nat → Nat} {rs w w' : va_W} {κ pc : Nat} {L : List (Nat × Value)} {rest : List Value} (g : gx_G D t (gx_E0 aa) l R cc RL nL J) {M : Nat} (hM : M ≤ R.cells ∧ 6 * M ≤ R.slots) (hst : l.stackTraces = false) (hk : κ + 1 ≤ M) {σ : CS} {q : (Int32 × CS)} (hf : fL_restore σ = some q) (hp : w.Perm (kW aa ad t σ rs)) (hp' : (kW aa ad t q.2 rs).Perm w') (hR : 7 + 1 ≤ R.frames ∧ 8 + (2 + 11) + 110 ≤ R.locals) (hcat : (rest.map fun v => v.category).sum ≤ 8) (hd : decode cc pc = .ok (.invokestatic 362, 3)) (kk : J (κ + 1) (6 * (κ + 1)) w' (pc + 3) L (.int q.1 :: rest)) : J κ (6 * κ) w pc L (.ref (ad 0) :: rest) := j_callH (na := 1) (As := [.ref (ad 0)]) g (hL_restore_ (rs := rs) hst hf) q_t_L_restore q_w_L_restore q_l_L_362 q_n_L (by decide) (by decide +kernel) rfl hR (lk_add hM hk) hcat hp hp' hd kk rfl
theorem lc_sum {D : va_G} {t : Nat → ClassId} {aa : gx_AA} {l : Launch} {R : Room} {cc : ByteArray} {nL : Nat} {J : gx_J} {ad : Nat → Nat} {rs w w' : va_W} {κ pc : Nat} {L : List (Nat × Value)} {rest : List Value} (g : gx_G D t (gx_E0 aa) l R cc RL nL J) {M : Nat} (hM : M ≤ R.cells ∧ 6 * M ≤ R.slots) (hst : l.stackTraces = false) (hxl : xL aa < 2 ^ 31) (hk : κ + 200 ≤ M) {σ : CS} {q : (Int64 × LwS)} (hf : fL_sum aa σ = some q) (hp : w.Perm (kW aa ad t σ rs)) (hp' : (kW aa ad t q.2.1 rs).Perm w') (hR : 9 + 1 ≤ R.frames ∧ 8 + (4 + 11) + 156 ≤ R.locals) (hcat : (rest.map fun v => v.category).sum ≤ 8) (hd : decode cc pc = .ok (.invokestatic 171, 3)) (kk : J (κ + 200) (6 * (κ + 200)) w' (pc + 3) L (.long q.1 :: rest)) : J κ (6 * κ) w pc L (.ref (ad 0) :: rest) := j_callMl (na := 1) (As := [.ref (ad 0)]) g (cL_sum_ (rs := rs) hst hxl hf) q_t_L_sum q_c_L_sum q_l_L_171 q_n_L (by decide +kernel) rfl hR (lk_cap hM hk) hcat hp hp' hd (by rw [Nat.mul_add] at kk; exact kk) rfl
set_option maxRecDepth 100000 in
set_option maxHeartbeats 8000000 in
theorem tL_isKept_29 {D : va_G} {t : Nat → ClassId} {aa : gx_AA} {l : Launch} {J : gx_J} {ad : Nat → Nat} {rs : va_W} {os : Nat} {q : (Int32 × LwT)} (hst : l.stackTraces = false) (hxl : xL aa < 2 ^ 31) (g : gx_G D t (gx_E0 aa) l ({ frames := 10, cells := 2200, slots := 13200, locals := 179 }) cL_isKept RL 6 J) (hE : ∀ (v : Int32) (σ : LwT) (pc : Nat) (L : List (Nat × Value)), some (v, σ) = some q → σ.2.1 ≤ 2200 → decode cL_isKept pc = .ok (.ireturn, 1) → narrow .boolean (.int v) = .int v → J σ.2.1 (6 * σ.2.1) ((os, .inl (t 4, 70, .inr (.inl σ.2.2))) :: kW aa ad t σ.1 rs) pc L [.int v])  : ∀ (n : Nat) (σ : LwT) (v2 : Int32) (v3 : Int32) (v4 : Int32) (v5 : Int32), fL_isKept_29 aa n σ v2 v3 v4 v5 = some q → J σ.2.1 (6 * σ.2.1) ((os, .inl (t 4, 70, .inr (.inl σ.2.2))) :: kW aa ad t σ.1 rs) 29 [(0, .ref (ad 0)), (1, .ref os), (2, .int v2), (3, .int v3), (4, .int v4), (5, .int v5)] [] := by
  intro n
  induction n with
  | zero => intro σ v2 v3 v4 v5 hf; cases hf
  | succ n ih =>
    intro σ v2 v3 v4 v5 hf
    replace hf := (fL_isKept_29_s aa n σ v2 v3 v4 v5).symm.trans hf
    refine j_iload (pc := 29) g 4 dL_isKept_29 rfl ?_
    refine j_if_le (tgt := 66) (pc := 31) g dL_isKept_31 (by decide) (fun c_31 => ?_) (fun c_31 => ?_)
    · have hf := gx_it c_31 hf
      refine j_aload_n (pc := 66) g 0 dL_isKept_66 rfl ?_
      obtain ⟨k_67, hf⟩ := gx_ck hf
      obtain ⟨r67, h_67, hf⟩ := gx_bs hf
      refine lc_undo (pc := 67) g (M := 2200) ⟨(Nat.le_of_ble_eq_true rfl), (Nat.le_of_ble_eq_true rfl)⟩ hst k_67 h_67 (kW_pm aa ad t _ _ _) (kW_pm aa ad t _ _ _).symm ⟨(Nat.le_of_ble_eq_true rfl), (Nat.le_of_ble_eq_true rfl)⟩ (Nat.le_of_ble_eq_true rfl) dL_isKept_67 ?_
      refine j_bipush (v := -79) (pc := 70) g dL_isKept_70 (by decide) ?_
      refine j_icmp_ne (tgt := 107) (pc := 72) g dL_isKept_72 (by decide) (fun c_72 => ?_) (fun c_72 => ?_)
      · have hf := gx_if c_72 hf
        refine j_iconst (v := 0) (pc := 107) g dL_isKept_107 (by decide) ?_
        obtain ⟨h_k, hf⟩ := gx_ck hf
        exact hE _ _ _ _ hf h_k dL_isKept_108 rfl
      · have hf := gx_it c_72 hf
        refine j_aload_n (pc := 75) g 0 dL_isKept_75 rfl ?_
        obtain ⟨k_76, hf⟩ := gx_ck hf
        obtain ⟨r76, h_76, hf⟩ := gx_bs hf
        refine lc_restore (pc := 76) g (M := 2200) ⟨(Nat.le_of_ble_eq_true rfl), (Nat.le_of_ble_eq_true rfl)⟩ hst k_76 h_76 (kW_pm aa ad t _ _ _) (kW_pm aa ad t _ _ _).symm ⟨(Nat.le_of_ble_eq_true rfl), (Nat.le_of_ble_eq_true rfl)⟩ (Nat.le_of_ble_eq_true rfl) dL_isKept_76 ?_
        refine j_iload_n (pc := 79) g 3 dL_isKept_79 rfl ?_
        refine j_icmp_ne (tgt := 107) (pc := 80) g dL_isKept_80 (by decide) (fun c_80 => ?_) (fun c_80 => ?_)
        · have hf := gx_if c_80 hf
          refine j_iconst (v := 0) (pc := 107) g dL_isKept_107 (by decide) ?_
          obtain ⟨h_k, hf⟩ := gx_ck hf
          exact hE _ _ _ _ hf h_k dL_isKept_108 rfl
        · have hf := gx_it c_80 hf
          refine j_aload_n (pc := 83) g 0 dL_isKept_83 rfl ?_
          obtain ⟨k_84, hf⟩ := gx_ck hf
          obtain ⟨r84, h_84, hf⟩ := gx_bs hf
          refine lc_sum (pc := 84) g (M := 2200) ⟨(Nat.le_of_ble_eq_true rfl), (Nat.le_of_ble_eq_true rfl)⟩ hst hxl k_84 h_84 (kW_pm aa ad t _ _ _) (kW_pm aa ad t _ _ _).symm ⟨(Nat.le_of_ble_eq_true rfl), (Nat.le_of_ble_eq_true rfl)⟩ (Nat.le_of_ble_eq_true rfl) dL_isKept_84 ?_
          refine j_aload_n (pc := 87) g 1 dL_isKept_87 rfl ?_
          refine j_iload_n (pc := 88) g 2 dL_isKept_88 rfl ?_
          obtain ⟨h_89, hf⟩ := gx_ck hf
          refine j_lald (pc := 89) g 0 rfl h_89 dL_isKept_89 ?_
          refine j_lcmp (pc := 90) g dL_isKept_90 ?_
          refine j_if_ne (tgt := 107) (pc := 91) g dL_isKept_91 (by decide) (fun c_91 => ?_) (fun c_91 => ?_)
          · have hf := gx_if c_91 hf
            refine j_iconst (v := 0) (pc := 107) g dL_isKept_107 (by decide) ?_
            obtain ⟨h_k, hf⟩ := gx_ck hf
            exact hE _ _ _ _ hf h_k dL_isKept_108 rfl
          · have hf := gx_it c_91 hf
            refine j_aload_n (pc := 94) g 0 dL_isKept_94 rfl ?_
            obtain ⟨k_95, hf⟩ := gx_ck hf
            obtain ⟨r95, h_95, hf⟩ := gx_bs hf
            refine lc_undo (pc := 95) g (M := 2200) ⟨(Nat.le_of_ble_eq_true rfl), (Nat.le_of_ble_eq_true rfl)⟩ hst k_95 h_95 (kW_pm aa ad t _ _ _) (kW_pm aa ad t _ _ _).symm ⟨(Nat.le_of_ble_eq_true rfl), (Nat.le_of_ble_eq_true rfl)⟩ (Nat.le_of_ble_eq_true rfl) dL_isKept_95 ?_
            refine j_bipush (v := -79) (pc := 98) g dL_isKept_98 (by decide) ?_
            refine j_icmp_ne (tgt := 107) (pc := 100) g dL_isKept_100 (by decide) (fun c_100 => ?_) (fun c_100 => ?_)
            · have hf := gx_if c_100 hf
              refine j_iconst (v := 0) (pc := 107) g dL_isKept_107 (by decide) ?_
              obtain ⟨h_k, hf⟩ := gx_ck hf
              exact hE _ _ _ _ hf h_k dL_isKept_108 rfl
            · have hf := gx_it c_100 hf
              refine j_iconst (v := 1) (pc := 103) g dL_isKept_103 (by decide) ?_
              refine j_goto (tgt := 108) (pc := 104) g dL_isKept_104 (by decide) ?_
              obtain ⟨h_k, hf⟩ := gx_ck hf
              exact hE _ _ _ _ hf h_k dL_isKept_108 rfl
    · have hf := gx_if c_31 hf
      refine j_iinc (v := v4 + (-1)) (L' := [(4, .int (v4 + (-1))), (0, .ref (ad 0)), (1, .ref os), (2, .int v2), (3, .int v3), (5, .int v5)]) (pc := 34) g 4 dL_isKept_34 rfl rfl (Nat.le_of_ble_eq_true rfl) rfl ?_
      refine j_aload_n (pc := 37) g 1 dL_isKept_37 rfl ?_
      obtain ⟨k_38, hf⟩ := gx_ck hf
      obtain ⟨r38, h_38, hf⟩ := gx_bs hf
      refine lc_undo (pc := 38) g (M := 2200) ⟨(Nat.le_of_ble_eq_true rfl), (Nat.le_of_ble_eq_true rfl)⟩ hst k_38 h_38 (kW_pm aa ad t _ _ _) (kW_pm aa ad t _ _ _).symm ⟨(Nat.le_of_ble_eq_true rfl), (Nat.le_of_ble_eq_true rfl)⟩ (Nat.le_of_ble_eq_true rfl) dL_isKept_38 ?_
      refine j_iload (pc := 41) g 0 dL_isKept_41 rfl ?_
      refine j_icmp_ne (tgt := 58) (pc := 43) g dL_isKept_43 (by decide) (fun c_43 => ?_) (fun c_43 => ?_)
      · have hf := gx_if c_43 hf
        refine j_iconst (v := 0) (pc := 58) g dL_isKept_58 (by decide) ?_
        obtain ⟨h_k, hf⟩ := gx_ck hf
        exact hE _ _ _ _ hf h_k dL_isKept_59 rfl
      · have hf := gx_it c_43 hf
        refine j_aload_n (pc := 46) g 1 dL_isKept_46 rfl ?_
        obtain ⟨k_47, hf⟩ := gx_ck hf
        obtain ⟨r47, h_47, hf⟩ := gx_bs hf
        refine lc_sum (pc := 47) g (M := 2200) ⟨(Nat.le_of_ble_eq_true rfl), (Nat.le_of_ble_eq_true rfl)⟩ hst hxl k_47 h_47 (kW_pm aa ad t _ _ _) (kW_pm aa ad t _ _ _).symm ⟨(Nat.le_of_ble_eq_true rfl), (Nat.le_of_ble_eq_true rfl)⟩ (Nat.le_of_ble_eq_true rfl) dL_isKept_47 ?_
        refine j_aload_n (pc := 50) g 2 dL_isKept_50 rfl ?_
        refine j_iload (pc := 51) g 5 dL_isKept_51 rfl ?_
        obtain ⟨h_53, hf⟩ := gx_ck hf
        refine j_lald (pc := 53) g 0 rfl h_53 dL_isKept_53 ?_
        refine j_lcmp (pc := 54) g dL_isKept_54 ?_
        refine j_if_eq (tgt := 60) (pc := 55) g dL_isKept_55 (by decide) (fun c_55 => ?_) (fun c_55 => ?_)
        · have hf := gx_it c_55 hf
          refine j_iinc (v := v5 + (-1)) (L' := [(5, .int (v5 + (-1))), (4, .int (v4 + (-1))), (0, .ref (ad 0)), (1, .ref os), (2, .int v2), (3, .int v3)]) (pc := 60) g 5 dL_isKept_60 rfl rfl (Nat.le_of_ble_eq_true rfl) rfl ?_
          refine j_goto (tgt := 29) (pc := 63) g dL_isKept_63 (by decide) ?_
          refine j_sub (pc := 29) g [2, 3, 4, 5, 1, 0] rfl ?_
          exact ih (r47.2.1, (σ.2.1 + 1) + 200, σ.2.2) v2 v3 (v4 + (-1)) (v5 + (-1)) hf
        · have hf := gx_if c_55 hf
          refine j_iconst (v := 0) (pc := 58) g dL_isKept_58 (by decide) ?_
          obtain ⟨h_k, hf⟩ := gx_ck hf
          exact hE _ _ _ _ hf h_k dL_isKept_59 rfl
set_option maxRecDepth 100000 in
set_option maxHeartbeats 8000000 in
theorem cL_isKept_ {D : va_G} {t : Nat → ClassId} {aa : gx_AA} {l : Launch} {ad : Nat → Nat} {rs : va_W} {os : Nat} {σ : (CS × (Nat → Int64))} {p2 : Int32} {q : (Int32 × LwT)} (hst : l.stackTraces = false) (hxl : xL aa < 2 ^ 31) (hf : fL_isKept aa σ p2 = some q) : gx_CM D t (gx_E0 aa) l yL_isKept cL_isKept 6 (some .boolean) 10 179 2200 (6 * 2200) [.ref (ad 0), .ref os, .int p2] ((os, .inl (t 4, 70, .inr (.inl σ.2))) :: kW aa ad t σ.1 rs) ((os, .inl (t 4, 70, .inr (.inl q.2.2.2))) :: kW aa ad t q.2.1 rs) (some (.int q.1)) := by
  refine gx_intro_mi (by decide) (Nat.le_of_ble_eq_true rfl) (fun J g0 hE0 => ?_)
  have g : gx_G D t (gx_E0 aa) l ({ frames := 10, cells := 2200, slots := 13200, locals := 179 }) cL_isKept RL 6 J := g0
  have hE : ∀ (v : Int32) (σ : LwT) (pc : Nat) (L : List (Nat × Value)), some (v, σ) = some q → σ.2.1 ≤ 2200 → decode cL_isKept pc = .ok (.ireturn, 1) → narrow .boolean (.int v) = .int v → J σ.2.1 (6 * σ.2.1) ((os, .inl (t 4, 70, .inr (.inl σ.2.2))) :: kW aa ad t σ.1 rs) pc L [.int v] := fun v σ pc L h h0 h1 h2 => by cases h; exact j_wid g h0 (Nat.mul_le_mul_left 6 h0) (hE0 pc L h1 h2)
  unfold fL_isKept at hf
  show J 0 (6 * 0) ((os, .inl (t 4, 70, .inr (.inl σ.2))) :: kW aa ad t σ.1 rs) 0 [(0, .ref (ad 0)), (1, .ref os), (2, .int p2)] []
  refine j_aload_n (pc := 0) g 0 dL_isKept_0 rfl ?_
  obtain ⟨k_1, hf⟩ := gx_ck hf
  obtain ⟨r1, h_1, hf⟩ := gx_bs hf
  refine lv_save (pc := 1) g (M := 2200) ⟨(Nat.le_of_ble_eq_true rfl), (Nat.le_of_ble_eq_true rfl)⟩ k_1 h_1 (q0 := 1) rfl rfl (kW_pm aa ad t _ _ _) (kW_pm aa ad t _ _ _).symm ⟨(Nat.le_of_ble_eq_true rfl), (Nat.le_of_ble_eq_true rfl)⟩ (Nat.le_of_ble_eq_true rfl) dL_isKept_1 ?_
  refine j_istore_n (L' := [(3, .int r1.1), (0, .ref (ad 0)), (1, .ref os), (2, .int p2)]) (pc := 4) g dL_isKept_4 rfl (Nat.le_of_ble_eq_true rfl) rfl ?_
  refine j_bipush (v := 8) (pc := 5) g dL_isKept_5 (by decide) ?_
  refine j_iload_n (pc := 7) g 3 dL_isKept_7 rfl ?_
  obtain ⟨h_8, hf⟩ := gx_ck hf
  refine j_min (pc := 8) g q_l_L_357 q_t_mathmin q_n_math q_c_mathmin (Nat.le_of_ble_eq_true rfl) (Nat.le_of_ble_eq_true rfl) (lk_le (M := 2200) ⟨(Nat.le_of_ble_eq_true rfl), (Nat.le_of_ble_eq_true rfl)⟩ h_8) dL_isKept_8 ?_
  refine j_istore (L' := [(4, .int (if p2 < (8 : Int32) then p2 else (8 : Int32))), (3, .int r1.1), (0, .ref (ad 0)), (1, .ref os), (2, .int p2)]) (pc := 11) g dL_isKept_11 (Nat.le_of_ble_eq_true rfl) rfl ?_
  refine j_aload_n (pc := 13) g 2 dL_isKept_13 rfl ?_
  obtain ⟨k_14, hf⟩ := gx_ck hf
  obtain ⟨r14, h_14, hf⟩ := gx_bs hf
  refine lv_undoCount (pc := 14) g (M := 2200) ⟨(Nat.le_of_ble_eq_true rfl), (Nat.le_of_ble_eq_true rfl)⟩ k_14 h_14 (q0 := 1) rfl rfl (kW_pm aa ad t _ _ _) (kW_pm aa ad t _ _ _).symm ⟨(Nat.le_of_ble_eq_true rfl), (Nat.le_of_ble_eq_true rfl)⟩ (Nat.le_of_ble_eq_true rfl) dL_isKept_14 ?_
  refine j_iload (pc := 17) g 0 dL_isKept_17 rfl ?_
  refine j_icmp_eq (tgt := 24) (pc := 19) g dL_isKept_19 (by decide) (fun c_19 => ?_) (fun c_19 => ?_)
  · have hf := gx_it c_19 hf
    refine j_iload_n (pc := 24) g 4 dL_isKept_24 rfl ?_
    refine j_iconst (v := 1) (pc := 25) g dL_isKept_25 (by decide) ?_
    refine j_isub (pc := 26) g dL_isKept_26 ?_
    refine j_istore (L' := [(5, .int (p2 - (1 : Int32))), (4, .int (if p2 < (8 : Int32) then p2 else (8 : Int32))), (3, .int r1.1), (0, .ref (ad 0)), (1, .ref os), (2, .int p2)]) (pc := 27) g dL_isKept_27 (Nat.le_of_ble_eq_true rfl) rfl ?_
    refine j_sub (pc := 29) g [3, 4, 5, 2, 1, 0] rfl ?_
    exact tL_isKept_29 hst hxl g hE 2000 (r1.2, 0, σ.2) p2 r1.1 (if p2 < (8 : Int32) then p2 else (8 : Int32)) (p2 - (1 : Int32)) hf
  · have hf := gx_if c_19 hf
    refine j_iconst (v := 0) (pc := 22) g dL_isKept_22 (by decide) ?_
    obtain ⟨h_k, hf⟩ := gx_ck hf
    exact hE _ _ _ _ hf h_k dL_isKept_23 rfl
