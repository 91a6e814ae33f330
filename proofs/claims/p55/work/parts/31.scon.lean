theorem pS_X5_0_1 {D : va_G} {t : Nat → ClassId} {aa : gx_AA} {l : Launch} {R : Room} {cc : ByteArray} {nL : Nat} {J : gx_J} {ad : Nat → Nat} {rs : va_W} {k n pc : Nat} {L : List (Nat × Value)} {st : List Value} (g : gx_G D t (gx_E0 aa) l R cc RX5 nL J) {σ : (OS × OS)} {v : Int32} (hd : decode cc pc = .ok (.putfield 18, 3)) (kk : J k n (sC aa ad t (os_sf σ.1 1 v, σ.2) ++ rs) (pc + 3) L st) : J k n (sC aa ad t σ ++ rs) pc L (.int v :: .ref (ad 0) :: st) := j_put (w' := sC aa ad t (os_sf σ.1 1 v, σ.2) ++ rs) g in_X5 0 rfl rfl 1 (by decide) q_f_X5_18 rfl tyX5 tyX5_ok nmX5 rfl (ty := .int) (by decide +kernel) rfl rfl (Nat.le_of_ble_eq_true rfl) rfl hd kk
set_option maxRecDepth 100000 in
set_option maxHeartbeats 4000000 in
theorem cX5_rewind_ {D : va_G} {t : Nat → ClassId} {aa : gx_AA} {l : Launch} {ad : Nat → Nat} {rs : va_W} {σ : (OS × OS)} {q : (OS × OS)} (hf : fX5_rewind σ = some q) : gx_C D t (gx_E0 aa) l yX5_rewind cX5_rewind 1 none 0 0 [.ref (ad 0)] (sC aa ad t σ ++ rs) (sC aa ad t q ++ rs) none := by
  refine gx_intro_v (by decide) (Nat.le_of_ble_eq_true rfl) (fun J g hE0 => ?_)
  have hE : ∀ (σ : (OS × OS)) (pc : Nat) (L : List (Nat × Value)), some σ = some q → decode cX5_rewind pc = .ok (.return_, 1) → J 0 0 (sC aa ad t σ ++ rs) pc L [] := fun σ pc L h h1 => by cases h; exact hE0 pc L h1
  unfold fX5_rewind at hf
  show J 0 0 (sC aa ad t σ ++ rs) 0 [(0, .ref (ad 0))] []
  refine j_aload_n (pc := 0) g 0 dX5_rewind_0 rfl ?_
  refine j_iconst (v := 0) (pc := 1) g dX5_rewind_1 (by decide) ?_
  refine pS_X5_0_1 (σ := σ) (pc := 2) g dX5_rewind_2 ?_
  exact hE _ _ _ hf dX5_rewind_5
theorem cS_X5_X5_rewind_0 {D : va_G} {t : Nat → ClassId} {aa : gx_AA} {l : Launch} {R : Room} {cc : ByteArray} {nL : Nat} {J : gx_J} {ad : Nat → Nat} {rs : va_W} {k n pc : Nat} {L : List (Nat × Value)} {rest : List Value} (g : gx_G D t (gx_E0 aa) l R cc RX5 nL J) {σ : (OS × OS)} {q : (OS × OS)} {fr lo : Nat} (hC : gx_C D t (gx_E0 aa) l yX5_rewind cX5_rewind 1 none fr lo [.ref (ad 0)] (sC aa ad t σ ++ rs) (sC aa ad t q ++ rs) none) (hR : fr + 1 ≤ R.frames ∧ 8 + (1 + 11) + lo ≤ R.locals) (hkn : k ≤ R.cells ∧ n ≤ R.slots) (hcat : (rest.map fun v => v.category).sum ≤ 8) (hd : decode cc pc = .ok (.invokevirtual 22, 3)) (kk : J k n (sC aa ad t q ++ rs) (pc + 3) L (rest)) : J k n (sC aa ad t σ ++ rs) pc L (.ref (ad 0) :: rest) := j_callVv (na := 0) (As := []) (q0 := 0) (ci := 7) g hC q_i_X5_rewind q_s_X5_rewind rfl rfl rfl q_c_X5_rewind q_l_X5_22 q_n_X5 (by decide +kernel) rfl hR hkn hcat (.refl _) (.refl _) hd kk rfl
theorem gS_X5_0_1 {D : va_G} {t : Nat → ClassId} {aa : gx_AA} {l : Launch} {R : Room} {cc : ByteArray} {nL : Nat} {J : gx_J} {ad : Nat → Nat} {rs : va_W} {k n pc : Nat} {L : List (Nat × Value)} {st : List Value} (g : gx_G D t (gx_E0 aa) l R cc RX5 nL J) {σ : (OS × OS)} (hd : decode cc pc = .ok (.getfield 18, 3)) (kk : J k n (sC aa ad t σ ++ rs) (pc + 3) L (.int (os_f σ.1 1) :: st)) : J k n (sC aa ad t σ ++ rs) pc L (.ref (ad 0) :: st) := j_get g in_X5 0 rfl rfl 1 (by decide) q_f_X5_18 rfl rfl hd kk
theorem gS_X5_0_0 {D : va_G} {t : Nat → ClassId} {aa : gx_AA} {l : Launch} {R : Room} {cc : ByteArray} {nL : Nat} {J : gx_J} {ad : Nat → Nat} {rs : va_W} {k n pc : Nat} {L : List (Nat × Value)} {st : List Value} (g : gx_G D t (gx_E0 aa) l R cc RX5 nL J) {σ : (OS × OS)} (hd : decode cc pc = .ok (.getfield 12, 3)) (kk : J k n (sC aa ad t σ ++ rs) (pc + 3) L (.ref (ad 1) :: st)) : J k n (sC aa ad t σ ++ rs) pc L (.ref (ad 0) :: st) := j_get g in_X5 0 rfl rfl 0 (by decide) q_f_X5_12 rfl rfl hd kk
theorem gS_X5_1_1 {D : va_G} {t : Nat → ClassId} {aa : gx_AA} {l : Launch} {R : Room} {cc : ByteArray} {nL : Nat} {J : gx_J} {ad : Nat → Nat} {rs : va_W} {k n pc : Nat} {L : List (Nat × Value)} {st : List Value} (g : gx_G D t (gx_E0 aa) l R cc RX5 nL J) {σ : (OS × OS)} (hd : decode cc pc = .ok (.getfield 29, 3)) (kk : J k n (sC aa ad t σ ++ rs) (pc + 3) L (.int (os_f σ.2 1) :: st)) : J k n (sC aa ad t σ ++ rs) pc L (.ref (ad 1) :: st) := j_get g in_X6 1 rfl rfl 1 (by decide) q_f_X5_29 rfl rfl hd kk
theorem gS_X5_1_0 {D : va_G} {t : Nat → ClassId} {aa : gx_AA} {l : Launch} {R : Room} {cc : ByteArray} {nL : Nat} {J : gx_J} {ad : Nat → Nat} {rs : va_W} {k n pc : Nat} {L : List (Nat × Value)} {st : List Value} (g : gx_G D t (gx_E0 aa) l R cc RX5 nL J) {σ : (OS × OS)} (hd : decode cc pc = .ok (.getfield 128, 3)) (kk : J k n (sC aa ad t σ ++ rs) (pc + 3) L (.ref (ad 2) :: st)) : J k n (sC aa ad t σ ++ rs) pc L (.ref (ad 1) :: st) := j_get g in_X6 1 rfl rfl 0 (by decide) q_f_X5_128 rfl rfl hd kk
theorem lS_X5_1_0 {D : va_G} {t : Nat → ClassId} {aa : gx_AA} {l : Launch} {R : Room} {cc : ByteArray} {nL : Nat} {J : gx_J} {ad : Nat → Nat} {rs : va_W} {k n pc : Nat} {L : List (Nat × Value)} {st : List Value} (g : gx_G D t (gx_E0 aa) l R cc RX5 nL J) {σ : (OS × OS)} {i : Int32} (hin : gx_in i 60) (hd : decode cc pc = .ok (.caload, 1)) (kk : J k n (sC aa ad t σ ++ rs) (pc + 1) L (.int (os_a σ.2 0 i.toNatClampNeg) :: st)) : J k n (sC aa ad t σ ++ rs) pc L (.int i :: .ref (ad 2) :: st) := j_cald g 2 rfl hin hd kk
set_option maxRecDepth 100000 in
set_option maxHeartbeats 4000000 in
theorem cX5_readBetween_ {D : va_G} {t : Nat → ClassId} {aa : gx_AA} {l : Launch} {ad : Nat → Nat} {rs : va_W} {σ : (OS × OS)} {p1 : Int32} {p2 : Int32} {q : (Int32 × (OS × OS))} (hf : fX5_readBetween σ p1 p2 = some q) : gx_C D t (gx_E0 aa) l yX5_readBetween cX5_readBetween 4 (some .int) 0 0 [.ref (ad 0), .int p1, .int p2] (sC aa ad t σ ++ rs) (sC aa ad t q.2 ++ rs) (some (.int q.1)) := by
  refine gx_intro_i (by decide) (Nat.le_of_ble_eq_true rfl) (fun J g hE0 => ?_)
  have hE : ∀ (v : Int32) (σ : (OS × OS)) (pc : Nat) (L : List (Nat × Value)), some (v, σ) = some q → decode cX5_readBetween pc = .ok (.ireturn, 1) → narrow .int (.int v) = .int v → J 0 0 (sC aa ad t σ ++ rs) pc L [.int v] := fun v σ pc L h h1 h2 => by cases h; exact hE0 pc L h1 h2
  unfold fX5_readBetween at hf
  show J 0 0 (sC aa ad t σ ++ rs) 0 [(0, .ref (ad 0)), (1, .int p1), (2, .int p2)] []
  refine j_aload_n (pc := 0) g 0 dX5_readBetween_0 rfl ?_
  refine gS_X5_0_1 (σ := σ) (pc := 1) g dX5_readBetween_1 ?_
  refine j_aload_n (pc := 4) g 0 dX5_readBetween_4 rfl ?_
  refine gS_X5_0_0 (σ := σ) (pc := 5) g dX5_readBetween_5 ?_
  refine gS_X5_1_1 (σ := σ) (pc := 8) g dX5_readBetween_8 ?_
  refine j_icmp_ge (tgt := 46) (pc := 11) g dX5_readBetween_11 (by decide) (fun c_11 => ?_) (fun c_11 => ?_)
  · have hf := gx_it c_11 hf
    refine j_iconst (v := -1) (pc := 46) g dX5_readBetween_46 (by decide) ?_
    exact hE _ _ _ _ hf dX5_readBetween_47 rfl
  · have hf := gx_if c_11 hf
    refine j_aload_n (pc := 14) g 0 dX5_readBetween_14 rfl ?_
    refine gS_X5_0_0 (σ := σ) (pc := 15) g dX5_readBetween_15 ?_
    refine gS_X5_1_0 (σ := σ) (pc := 18) g dX5_readBetween_18 ?_
    refine j_aload_n (pc := 21) g 0 dX5_readBetween_21 rfl ?_
    refine gS_X5_0_1 (σ := σ) (pc := 22) g dX5_readBetween_22 ?_
    obtain ⟨h_25, hf⟩ := gx_ck hf
    refine lS_X5_1_0 (σ := σ) (pc := 25) g h_25 dX5_readBetween_25 ?_
    refine j_iload_n (pc := 26) g 1 dX5_readBetween_26 rfl ?_
    refine j_icmp_lt (tgt := 46) (pc := 27) g dX5_readBetween_27 (by decide) (fun c_27 => ?_) (fun c_27 => ?_)
    · have hf := gx_it c_27 hf
      refine j_iconst (v := -1) (pc := 46) g dX5_readBetween_46 (by decide) ?_
      exact hE _ _ _ _ hf dX5_readBetween_47 rfl
    · have hf := gx_if c_27 hf
      refine j_aload_n (pc := 30) g 0 dX5_readBetween_30 rfl ?_
      refine gS_X5_0_0 (σ := σ) (pc := 31) g dX5_readBetween_31 ?_
      refine gS_X5_1_0 (σ := σ) (pc := 34) g dX5_readBetween_34 ?_
      refine j_aload_n (pc := 37) g 0 dX5_readBetween_37 rfl ?_
      refine gS_X5_0_1 (σ := σ) (pc := 38) g dX5_readBetween_38 ?_
      obtain ⟨h_41, hf⟩ := gx_ck hf
      refine lS_X5_1_0 (σ := σ) (pc := 41) g h_41 dX5_readBetween_41 ?_
      refine j_iload_n (pc := 42) g 2 dX5_readBetween_42 rfl ?_
      refine j_icmp_le (tgt := 48) (pc := 43) g dX5_readBetween_43 (by decide) (fun c_43 => ?_) (fun c_43 => ?_)
      · have hf := gx_it c_43 hf
        refine j_aload_n (pc := 48) g 0 dX5_readBetween_48 rfl ?_
        refine gS_X5_0_0 (σ := σ) (pc := 49) g dX5_readBetween_49 ?_
        refine gS_X5_1_0 (σ := σ) (pc := 52) g dX5_readBetween_52 ?_
        refine j_aload_n (pc := 55) g 0 dX5_readBetween_55 rfl ?_
        refine gS_X5_0_1 (σ := σ) (pc := 56) g dX5_readBetween_56 ?_
        obtain ⟨h_59, hf⟩ := gx_ck hf
        refine lS_X5_1_0 (σ := σ) (pc := 59) g h_59 dX5_readBetween_59 ?_
        refine j_istore_n (L' := [(3, .int (os_a σ.2 0 (os_f σ.1 1).toNatClampNeg)), (0, .ref (ad 0)), (1, .int p1), (2, .int p2)]) (pc := 60) g dX5_readBetween_60 rfl (Nat.le_of_ble_eq_true rfl) rfl ?_
        refine j_aload_n (pc := 61) g 1 dX5_readBetween_61 rfl ?_
        refine j_dup (pc := 62) g dX5_readBetween_62 rfl ?_
        refine gS_X5_0_1 (σ := σ) (pc := 63) g dX5_readBetween_63 ?_
        refine j_iconst (v := 1) (pc := 66) g dX5_readBetween_66 (by decide) ?_
        refine j_iadd (pc := 67) g dX5_readBetween_67 ?_
        refine pS_X5_0_1 (σ := σ) (pc := 68) g dX5_readBetween_68 ?_
        refine j_iload_n (pc := 71) g 0 dX5_readBetween_71 rfl ?_
        exact hE _ _ _ _ hf dX5_readBetween_72 rfl
      · have hf := gx_if c_43 hf
        refine j_iconst (v := -1) (pc := 46) g dX5_readBetween_46 (by decide) ?_
        exact hE _ _ _ _ hf dX5_readBetween_47 rfl

set_option maxRecDepth 100000 in
set_option maxHeartbeats 4000000 in
theorem cX5_stands_ {D : va_G} {t : Nat → ClassId} {aa : gx_AA} {l : Launch} {ad : Nat → Nat} {rs : va_W} {σ : (OS × OS)} {p1 : Int32} {p2 : Int32} {q : Int32} (hf : fX5_stands σ p1 p2 = some q) : gx_C D t (gx_E0 aa) l yX5_stands cX5_stands 3 (some .boolean) 0 0 [.ref (ad 0), .int p1, .int p2] (sC aa ad t σ ++ rs) (sC aa ad t σ ++ rs) (some (.int q)) := by
  refine gx_intro_i (by decide) (Nat.le_of_ble_eq_true rfl) (fun J g hE0 => ?_)
  have hE : ∀ (v : Int32) (pc : Nat) (L : List (Nat × Value)), some v = some q → decode cX5_stands pc = .ok (.ireturn, 1) → narrow .boolean (.int v) = .int v → J 0 0 (sC aa ad t σ ++ rs) pc L [.int v] := fun v pc L h h1 h2 => by cases h; exact hE0 pc L h1 h2
  unfold fX5_stands at hf
  show J 0 0 (sC aa ad t σ ++ rs) 0 [(0, .ref (ad 0)), (1, .int p1), (2, .int p2)] []
  refine j_iload_n (pc := 0) g 1 dX5_stands_0 rfl ?_
  refine j_aload_n (pc := 1) g 0 dX5_stands_1 rfl ?_
  refine gS_X5_0_0 (σ := σ) (pc := 2) g dX5_stands_2 ?_
  refine gS_X5_1_1 (σ := σ) (pc := 5) g dX5_stands_5 ?_
  refine j_icmp_ge (tgt := 28) (pc := 8) g dX5_stands_8 (by decide) (fun c_8 => ?_) (fun c_8 => ?_)
  · have hf := gx_it c_8 hf
    refine j_iconst (v := 0) (pc := 28) g dX5_stands_28 (by decide) ?_
    exact hE _ _ _ hf dX5_stands_29 rfl
  · have hf := gx_if c_8 hf
    refine j_aload_n (pc := 11) g 0 dX5_stands_11 rfl ?_
    refine gS_X5_0_0 (σ := σ) (pc := 12) g dX5_stands_12 ?_
    refine gS_X5_1_0 (σ := σ) (pc := 15) g dX5_stands_15 ?_
    refine j_iload_n (pc := 18) g 1 dX5_stands_18 rfl ?_
    obtain ⟨h_19, hf⟩ := gx_ck hf
    refine lS_X5_1_0 (σ := σ) (pc := 19) g h_19 dX5_stands_19 ?_
    refine j_iload_n (pc := 20) g 2 dX5_stands_20 rfl ?_
    refine j_icmp_ne (tgt := 28) (pc := 21) g dX5_stands_21 (by decide) (fun c_21 => ?_) (fun c_21 => ?_)
    · have hf := gx_if c_21 hf
      refine j_iconst (v := 0) (pc := 28) g dX5_stands_28 (by decide) ?_
      exact hE _ _ _ hf dX5_stands_29 rfl
    · have hf := gx_it c_21 hf
      refine j_iconst (v := 1) (pc := 24) g dX5_stands_24 (by decide) ?_
      refine j_goto (tgt := 29) (pc := 25) g dX5_stands_25 (by decide) ?_
      exact hE _ _ _ hf dX5_stands_29 rfl
theorem cS_X5_X5_stands_0 {D : va_G} {t : Nat → ClassId} {aa : gx_AA} {l : Launch} {R : Room} {cc : ByteArray} {nL : Nat} {J : gx_J} {ad : Nat → Nat} {rs : va_W} {k n pc : Nat} {L : List (Nat × Value)} {rest : List Value} (g : gx_G D t (gx_E0 aa) l R cc RX5 nL J) {σ : (OS × OS)} {x0 x1 : Int32} {q : Int32} {fr lo : Nat} (hC : gx_C D t (gx_E0 aa) l yX5_stands cX5_stands 3 (some .boolean) fr lo [.ref (ad 0), .int x0, .int x1] (sC aa ad t σ ++ rs) (sC aa ad t σ ++ rs) (some (.int q))) (hR : fr + 1 ≤ R.frames ∧ 8 + (3 + 11) + lo ≤ R.locals) (hkn : k ≤ R.cells ∧ n ≤ R.slots) (hcat : (rest.map fun v => v.category).sum ≤ 8) (hd : decode cc pc = .ok (.invokevirtual 107, 3)) (kk : J k n (sC aa ad t σ ++ rs) (pc + 3) L (.int q :: rest)) : J k n (sC aa ad t σ ++ rs) pc L (.int x1 :: .int x0 :: .ref (ad 0) :: rest) := j_callVi (na := 2) (As := [.int x0, .int x1]) (q0 := 0) (ci := 7) g hC q_i_X5_stands q_s_X5_stands rfl rfl rfl q_c_X5_stands q_l_X5_107 q_n_X5 (by decide +kernel) rfl hR hkn hcat (.refl _) (.refl _) hd kk rfl
set_option maxRecDepth 100000 in
set_option maxHeartbeats 4000000 in
theorem tX5_countAlike_2 {D : va_G} {t : Nat → ClassId} {aa : gx_AA} {l : Launch} {J : gx_J} {ad : Nat → Nat} {rs : va_W} {σ : (OS × OS)} {q : Int32} (g : gx_G D t (gx_E0 aa) l ({ frames := 4, cells := 0, slots := 0, locals := 85 }) cX5_countAlike RX5 3 J) (hE : ∀ (v : Int32) (pc : Nat) (L : List (Nat × Value)), some v = some q → decode cX5_countAlike pc = .ok (.ireturn, 1) → narrow .int (.int v) = .int v → J 0 0 (sC aa ad t σ ++ rs) pc L [.int v])  : ∀ (n : Nat) (v1 : Nat) (v2 : Int32), fX5_countAlike_2 σ n v1 v2 = some q → J 0 0 (sC aa ad t σ ++ rs) 2 [(0, .ref (ad 0)), (1, .ref (aa.1 v1)), (2, .int v2)] [] := by
  intro n
  induction n with
  | zero => intro v1 v2 hf; cases hf
  | succ n ih =>
    intro v1 v2 hf
    replace hf := (fX5_countAlike_2_s σ n v1 v2).symm.trans hf
    refine j_iload_n (pc := 2) g 2 dX5_countAlike_2 rfl ?_
    refine j_aload_n (pc := 3) g 1 dX5_countAlike_3 rfl ?_
    obtain ⟨h_4, hf⟩ := gx_ck hf
    refine j_callVEi (pc := 4) (na := 0) (As := []) (rest := [.int v2]) g (c_strlen h_4) (e_so h_4) q_i_J0_length_8abf5 q_s_J0_length_8abf5 q_c_J0_length_8abf5 q_l_X5_98 q_n_J0 (by decide +kernel) rfl ⟨Nat.le_of_ble_eq_true rfl, Nat.le_of_ble_eq_true rfl⟩ ⟨Nat.zero_le _, Nat.zero_le _⟩ (Nat.le_of_ble_eq_true rfl) (.refl _) (.refl _) dX5_countAlike_4 ?_ rfl
    refine j_icmp_ge (tgt := 34) (pc := 7) g dX5_countAlike_7 (by decide) (fun c_7 => ?_) (fun c_7 => ?_)
    · have hf := gx_it c_7 hf
      refine j_iload_n (pc := 34) g 2 dX5_countAlike_34 rfl ?_
      exact hE _ _ _ hf dX5_countAlike_35 rfl
    · have hf := gx_if c_7 hf
      refine j_aload_n (pc := 10) g 0 dX5_countAlike_10 rfl ?_
      refine j_aload_n (pc := 11) g 0 dX5_countAlike_11 rfl ?_
      refine gS_X5_0_1 (σ := σ) (pc := 12) g dX5_countAlike_12 ?_
      refine j_iload_n (pc := 15) g 2 dX5_countAlike_15 rfl ?_
      refine j_iadd (pc := 16) g dX5_countAlike_16 ?_
      refine j_aload_n (pc := 17) g 1 dX5_countAlike_17 rfl ?_
      refine j_iload_n (pc := 18) g 2 dX5_countAlike_18 rfl ?_
      obtain ⟨h_19, hf⟩ := gx_ck hf
      refine j_callVEi (pc := 19) (na := 1) (As := [.int v2]) (rest := [.int ((os_f σ.1 1) + v2), .ref (ad 0)]) g (c_strchr h_19.1 h_19.2) (e_so h_19.1) q_i_J0_charAt_5068e q_s_J0_charAt_5068e q_c_J0_charAt_5068e q_l_X5_103 q_n_J0 (by decide +kernel) rfl ⟨Nat.le_of_ble_eq_true rfl, Nat.le_of_ble_eq_true rfl⟩ ⟨Nat.zero_le _, Nat.zero_le _⟩ (Nat.le_of_ble_eq_true rfl) (.refl _) (.refl _) dX5_countAlike_19 ?_ rfl
      obtain ⟨r22, h_22, hf⟩ := gx_bs hf
      refine cS_X5_X5_stands_0 (σ := σ) (pc := 22) g (cX5_stands_ h_22) ⟨Nat.le_of_ble_eq_true rfl, Nat.le_of_ble_eq_true rfl⟩ ⟨Nat.zero_le _, Nat.zero_le _⟩ (Nat.le_of_ble_eq_true rfl) dX5_countAlike_22 ?_
      refine j_if_eq (tgt := 34) (pc := 25) g dX5_countAlike_25 (by decide) (fun c_25 => ?_) (fun c_25 => ?_)
      · have hf := gx_it c_25 hf
        refine j_iload_n (pc := 34) g 2 dX5_countAlike_34 rfl ?_
        exact hE _ _ _ hf dX5_countAlike_35 rfl
      · have hf := gx_if c_25 hf
        refine j_iinc (v := v2 + 1) (L' := [(2, .int (v2 + 1)), (0, .ref (ad 0)), (1, .ref (aa.1 v1))]) (pc := 28) g 2 dX5_countAlike_28 rfl rfl (Nat.le_of_ble_eq_true rfl) rfl ?_
        refine j_goto (tgt := 2) (pc := 31) g dX5_countAlike_31 (by decide) ?_
        refine j_sub (pc := 2) g [1, 2, 0] rfl ?_
        exact ih v1 (v2 + 1) hf
set_option maxRecDepth 100000 in
set_option maxHeartbeats 4000000 in
theorem cX5_countAlike_ {D : va_G} {t : Nat → ClassId} {aa : gx_AA} {l : Launch} {ad : Nat → Nat} {rs : va_W} {σ : (OS × OS)} {p1 : Nat} {q : Int32} (hf : fX5_countAlike σ p1 = some q) : gx_C D t (gx_E0 aa) l yX5_countAlike cX5_countAlike 3 (some .int) 4 85 [.ref (ad 0), .ref (aa.1 p1)] (sC aa ad t σ ++ rs) (sC aa ad t σ ++ rs) (some (.int q)) := by
  refine gx_intro_i (by decide) (Nat.le_of_ble_eq_true rfl) (fun J g hE0 => ?_)
  have hE : ∀ (v : Int32) (pc : Nat) (L : List (Nat × Value)), some v = some q → decode cX5_countAlike pc = .ok (.ireturn, 1) → narrow .int (.int v) = .int v → J 0 0 (sC aa ad t σ ++ rs) pc L [.int v] := fun v pc L h h1 h2 => by cases h; exact hE0 pc L h1 h2
  unfold fX5_countAlike at hf
  show J 0 0 (sC aa ad t σ ++ rs) 0 [(0, .ref (ad 0)), (1, .ref (aa.1 p1))] []
  refine j_iconst (v := 0) (pc := 0) g dX5_countAlike_0 (by decide) ?_
  refine j_istore_n (L' := [(2, .int (0 : Int32)), (0, .ref (ad 0)), (1, .ref (aa.1 p1))]) (pc := 1) g dX5_countAlike_1 rfl (Nat.le_of_ble_eq_true rfl) rfl ?_
  refine j_sub (pc := 2) g [1, 2, 0] rfl ?_
  exact tX5_countAlike_2 g hE 2000 p1 (0 : Int32) hf
theorem pS_X5_0_3 {D : va_G} {t : Nat → ClassId} {aa : gx_AA} {l : Launch} {R : Room} {cc : ByteArray} {nL : Nat} {J : gx_J} {ad : Nat → Nat} {rs : va_W} {k n pc : Nat} {L : List (Nat × Value)} {st : List Value} (g : gx_G D t (gx_E0 aa) l R cc RX5 nL J) {σ : (OS × OS)} {v : Int32} (hd : decode cc pc = .ok (.putfield 115, 3)) (kk : J k n (sC aa ad t (os_sf σ.1 3 v, σ.2) ++ rs) (pc + 3) L st) : J k n (sC aa ad t σ ++ rs) pc L (.int v :: .ref (ad 0) :: st) := j_put (w' := sC aa ad t (os_sf σ.1 3 v, σ.2) ++ rs) g in_X5 0 rfl rfl 3 (by decide) q_f_X5_115 rfl tyX5 tyX5_ok nmX5 rfl (ty := .int) (by decide +kernel) rfl rfl (Nat.le_of_ble_eq_true rfl) rfl hd kk
theorem cS_X5_X5_readBetween_0 {D : va_G} {t : Nat → ClassId} {aa : gx_AA} {l : Launch} {R : Room} {cc : ByteArray} {nL : Nat} {J : gx_J} {ad : Nat → Nat} {rs : va_W} {k n pc : Nat} {L : List (Nat × Value)} {rest : List Value} (g : gx_G D t (gx_E0 aa) l R cc RX5 nL J) {σ : (OS × OS)} {x0 x1 : Int32} {q : (Int32 × (OS × OS))} {fr lo : Nat} (hC : gx_C D t (gx_E0 aa) l yX5_readBetween cX5_readBetween 4 (some .int) fr lo [.ref (ad 0), .int x0, .int x1] (sC aa ad t σ ++ rs) (sC aa ad t q.2 ++ rs) (some (.int q.1))) (hR : fr + 1 ≤ R.frames ∧ 8 + (4 + 11) + lo ≤ R.locals) (hkn : k ≤ R.cells ∧ n ≤ R.slots) (hcat : (rest.map fun v => v.category).sum ≤ 8) (hd : decode cc pc = .ok (.invokevirtual 124, 3)) (kk : J k n (sC aa ad t q.2 ++ rs) (pc + 3) L (.int q.1 :: rest)) : J k n (sC aa ad t σ ++ rs) pc L (.int x1 :: .int x0 :: .ref (ad 0) :: rest) := j_callVi (na := 2) (As := [.int x0, .int x1]) (q0 := 0) (ci := 7) g hC q_i_X5_readBetween q_s_X5_readBetween rfl rfl rfl q_c_X5_readBetween q_l_X5_124 q_n_X5 (by decide +kernel) rfl hR hkn hcat (.refl _) (.refl _) hd kk rfl
theorem gS_X5_0_3 {D : va_G} {t : Nat → ClassId} {aa : gx_AA} {l : Launch} {R : Room} {cc : ByteArray} {nL : Nat} {J : gx_J} {ad : Nat → Nat} {rs : va_W} {k n pc : Nat} {L : List (Nat × Value)} {st : List Value} (g : gx_G D t (gx_E0 aa) l R cc RX5 nL J) {σ : (OS × OS)} (hd : decode cc pc = .ok (.getfield 115, 3)) (kk : J k n (sC aa ad t σ ++ rs) (pc + 3) L (.int (os_f σ.1 3) :: st)) : J k n (sC aa ad t σ ++ rs) pc L (.ref (ad 0) :: st) := j_get g in_X5 0 rfl rfl 3 (by decide) q_f_X5_115 rfl rfl hd kk
theorem pS_X5_0_4 {D : va_G} {t : Nat → ClassId} {aa : gx_AA} {l : Launch} {R : Room} {cc : ByteArray} {nL : Nat} {J : gx_J} {ad : Nat → Nat} {rs : va_W} {k n pc : Nat} {L : List (Nat × Value)} {st : List Value} (g : gx_G D t (gx_E0 aa) l R cc RX5 nL J) {σ : (OS × OS)} {v : Int32} (hd : decode cc pc = .ok (.putfield 118, 3)) (kk : J k n (sC aa ad t (os_sf σ.1 4 v, σ.2) ++ rs) (pc + 3) L st) : J k n (sC aa ad t σ ++ rs) pc L (.int v :: .ref (ad 0) :: st) := j_put (w' := sC aa ad t (os_sf σ.1 4 v, σ.2) ++ rs) g in_X5 0 rfl rfl 4 (by decide) q_f_X5_118 rfl tyX5 tyX5_ok nmX5 rfl (ty := .int) (by decide +kernel) rfl rfl (Nat.le_of_ble_eq_true rfl) rfl hd kk
theorem gS_X5_0_4 {D : va_G} {t : Nat → ClassId} {aa : gx_AA} {l : Launch} {R : Room} {cc : ByteArray} {nL : Nat} {J : gx_J} {ad : Nat → Nat} {rs : va_W} {k n pc : Nat} {L : List (Nat × Value)} {st : List Value} (g : gx_G D t (gx_E0 aa) l R cc RX5 nL J) {σ : (OS × OS)} (hd : decode cc pc = .ok (.getfield 118, 3)) (kk : J k n (sC aa ad t σ ++ rs) (pc + 3) L (.int (os_f σ.1 4) :: st)) : J k n (sC aa ad t σ ++ rs) pc L (.ref (ad 0) :: st) := j_get g in_X5 0 rfl rfl 4 (by decide) q_f_X5_118 rfl rfl hd kk
set_option maxRecDepth 100000 in
set_option maxHeartbeats 4000000 in
theorem cX5_readLetters_ {D : va_G} {t : Nat → ClassId} {aa : gx_AA} {l : Launch} {ad : Nat → Nat} {rs : va_W} {σ : (OS × OS)} {q : (Int32 × (OS × OS))} (hf : fX5_readLetters σ = some q) : gx_C D t (gx_E0 aa) l yX5_readLetters cX5_readLetters 1 (some .boolean) 1 23 [.ref (ad 0)] (sC aa ad t σ ++ rs) (sC aa ad t q.2 ++ rs) (some (.int q.1)) := by
  refine gx_intro_i (by decide) (Nat.le_of_ble_eq_true rfl) (fun J g hE0 => ?_)
  have hE : ∀ (v : Int32) (σ : (OS × OS)) (pc : Nat) (L : List (Nat × Value)), some (v, σ) = some q → decode cX5_readLetters pc = .ok (.ireturn, 1) → narrow .boolean (.int v) = .int v → J 0 0 (sC aa ad t σ ++ rs) pc L [.int v] := fun v σ pc L h h1 h2 => by cases h; exact hE0 pc L h1 h2
  unfold fX5_readLetters at hf
  show J 0 0 (sC aa ad t σ ++ rs) 0 [(0, .ref (ad 0))] []
  refine j_aload_n (pc := 0) g 0 dX5_readLetters_0 rfl ?_
  refine j_aload_n (pc := 1) g 0 dX5_readLetters_1 rfl ?_
  refine j_bipush (v := 97) (pc := 2) g dX5_readLetters_2 (by decide) ?_
  refine j_bipush (v := 122) (pc := 4) g dX5_readLetters_4 (by decide) ?_
  obtain ⟨r6, h_6, hf⟩ := gx_bs hf
  refine cS_X5_X5_readBetween_0 (σ := σ) (pc := 6) g (cX5_readBetween_ h_6) ⟨Nat.le_of_ble_eq_true rfl, Nat.le_of_ble_eq_true rfl⟩ ⟨Nat.zero_le _, Nat.zero_le _⟩ (Nat.le_of_ble_eq_true rfl) dX5_readLetters_6 ?_
  refine pS_X5_0_3 (σ := r6.2) (pc := 9) g dX5_readLetters_9 ?_
  refine j_aload_n (pc := 12) g 0 dX5_readLetters_12 rfl ?_
  refine gS_X5_0_3 (σ := (os_sf r6.2.1 3 r6.1, r6.2.2)) (pc := 13) g dX5_readLetters_13 ?_
  refine j_iconst (v := -1) (pc := 16) g dX5_readLetters_16 (by decide) ?_
  refine j_icmp_ne (tgt := 22) (pc := 17) g dX5_readLetters_17 (by decide) (fun c_17 => ?_) (fun c_17 => ?_)
  · have hf := gx_if c_17 hf
    refine j_aload_n (pc := 22) g 0 dX5_readLetters_22 rfl ?_
    refine j_aload_n (pc := 23) g 0 dX5_readLetters_23 rfl ?_
    refine j_bipush (v := 97) (pc := 24) g dX5_readLetters_24 (by decide) ?_
    refine j_bipush (v := 122) (pc := 26) g dX5_readLetters_26 (by decide) ?_
    obtain ⟨r28, h_28, hf⟩ := gx_bs hf
    refine cS_X5_X5_readBetween_0 (σ := (os_sf r6.2.1 3 r6.1, r6.2.2)) (pc := 28) g (cX5_readBetween_ h_28) ⟨Nat.le_of_ble_eq_true rfl, Nat.le_of_ble_eq_true rfl⟩ ⟨Nat.zero_le _, Nat.zero_le _⟩ (Nat.le_of_ble_eq_true rfl) dX5_readLetters_28 ?_
    refine pS_X5_0_4 (σ := r28.2) (pc := 31) g dX5_readLetters_31 ?_
    refine j_aload_n (pc := 34) g 0 dX5_readLetters_34 rfl ?_
    refine gS_X5_0_4 (σ := (os_sf r28.2.1 4 r28.1, r28.2.2)) (pc := 35) g dX5_readLetters_35 ?_
    refine j_iconst (v := -1) (pc := 38) g dX5_readLetters_38 (by decide) ?_
    refine j_icmp_eq (tgt := 46) (pc := 39) g dX5_readLetters_39 (by decide) (fun c_39 => ?_) (fun c_39 => ?_)
    · have hf := gx_it c_39 hf
      refine j_iconst (v := 0) (pc := 46) g dX5_readLetters_46 (by decide) ?_
      exact hE _ _ _ _ hf dX5_readLetters_47 rfl
    · have hf := gx_if c_39 hf
      refine j_iconst (v := 1) (pc := 42) g dX5_readLetters_42 (by decide) ?_
      refine j_goto (tgt := 47) (pc := 43) g dX5_readLetters_43 (by decide) ?_
      exact hE _ _ _ _ hf dX5_readLetters_47 rfl
  · have hf := gx_it c_17 hf
    refine j_iconst (v := 0) (pc := 20) g dX5_readLetters_20 (by decide) ?_
    exact hE _ _ _ _ hf dX5_readLetters_21 rfl

set_option maxRecDepth 100000 in
set_option maxHeartbeats 4000000 in
theorem cX5_accept_ {D : va_G} {t : Nat → ClassId} {aa : gx_AA} {l : Launch} {ad : Nat → Nat} {rs : va_W} {σ : (OS × OS)} {p1 : Int32} {q : (Int32 × (OS × OS))} (hf : fX5_accept σ p1 = some q) : gx_C D t (gx_E0 aa) l yX5_accept cX5_accept 2 (some .boolean) 1 22 [.ref (ad 0), .int p1] (sC aa ad t σ ++ rs) (sC aa ad t q.2 ++ rs) (some (.int q.1)) := by
  refine gx_intro_i (by decide) (Nat.le_of_ble_eq_true rfl) (fun J g hE0 => ?_)
  have hE : ∀ (v : Int32) (σ : (OS × OS)) (pc : Nat) (L : List (Nat × Value)), some (v, σ) = some q → decode cX5_accept pc = .ok (.ireturn, 1) → narrow .boolean (.int v) = .int v → J 0 0 (sC aa ad t σ ++ rs) pc L [.int v] := fun v σ pc L h h1 h2 => by cases h; exact hE0 pc L h1 h2
  unfold fX5_accept at hf
  show J 0 0 (sC aa ad t σ ++ rs) 0 [(0, .ref (ad 0)), (1, .int p1)] []
  refine j_aload_n (pc := 0) g 0 dX5_accept_0 rfl ?_
  refine j_aload_n (pc := 1) g 0 dX5_accept_1 rfl ?_
  refine gS_X5_0_1 (σ := σ) (pc := 2) g dX5_accept_2 ?_
  refine j_iload_n (pc := 5) g 1 dX5_accept_5 rfl ?_
  obtain ⟨r6, h_6, hf⟩ := gx_bs hf
  refine cS_X5_X5_stands_0 (σ := σ) (pc := 6) g (cX5_stands_ h_6) ⟨Nat.le_of_ble_eq_true rfl, Nat.le_of_ble_eq_true rfl⟩ ⟨Nat.zero_le _, Nat.zero_le _⟩ (Nat.le_of_ble_eq_true rfl) dX5_accept_6 ?_
  refine j_if_ne (tgt := 14) (pc := 9) g dX5_accept_9 (by decide) (fun c_9 => ?_) (fun c_9 => ?_)
  · have hf := gx_if c_9 hf
    refine j_aload_n (pc := 14) g 0 dX5_accept_14 rfl ?_
    refine j_dup (pc := 15) g dX5_accept_15 rfl ?_
    refine gS_X5_0_1 (σ := σ) (pc := 16) g dX5_accept_16 ?_
    refine j_iconst (v := 1) (pc := 19) g dX5_accept_19 (by decide) ?_
    refine j_iadd (pc := 20) g dX5_accept_20 ?_
    refine pS_X5_0_1 (σ := σ) (pc := 21) g dX5_accept_21 ?_
    refine j_iconst (v := 1) (pc := 24) g dX5_accept_24 (by decide) ?_
    exact hE _ _ _ _ hf dX5_accept_25 rfl
  · have hf := gx_it c_9 hf
    refine j_iconst (v := 0) (pc := 12) g dX5_accept_12 (by decide) ?_
    exact hE _ _ _ _ hf dX5_accept_13 rfl
theorem cS_X5_countAlike {D : va_G} {t : Nat → ClassId} {aa : gx_AA} {l : Launch} {R : Room} {cc : ByteArray} {nL : Nat} {J : gx_J} {ad : Nat → Nat} {rs : va_W} {k n pc : Nat} {L : List (Nat × Value)} {rest : List Value} (g : gx_G D t (gx_E0 aa) l R cc RX5 nL J) {σ : (OS × OS)} {x0 : Nat} {q : Int32} {fr lo : Nat} (hC : gx_C D t (gx_E0 aa) l yX5_countAlike cX5_countAlike 3 (some .int) fr lo [.ref (ad 0), .ref (aa.1 x0)] (sC aa ad t σ ++ rs) (sC aa ad t σ ++ rs) (some (.int q))) (hR : fr + 1 ≤ R.frames ∧ 8 + (3 + 11) + lo ≤ R.locals) (hkn : k ≤ R.cells ∧ n ≤ R.slots) (hcat : (rest.map fun v => v.category).sum ≤ 8) (hd : decode cc pc = .ok (.invokevirtual 88, 3)) (kk : J k n (sC aa ad t σ ++ rs) (pc + 3) L (.int q :: rest)) : J k n (sC aa ad t σ ++ rs) pc L (.ref (aa.1 x0) :: .ref (ad 0) :: rest) := j_callVi (na := 1) (As := [.ref (aa.1 x0)]) (q0 := 0) (ci := 7) g hC q_i_X5_countAlike q_s_X5_countAlike rfl rfl rfl q_c_X5_countAlike q_l_X5_88 q_n_X5 (by decide +kernel) rfl hR hkn hcat (.refl _) (.refl _) hd kk rfl
set_option maxRecDepth 100000 in
set_option maxHeartbeats 4000000 in
theorem tX5_readWord_4 {D : va_G} {t : Nat → ClassId} {aa : gx_AA} {l : Launch} {J : gx_J} {ad : Nat → Nat} {rs : va_W} {q : (Int32 × (OS × OS))} (g : gx_G D t (gx_E0 aa) l ({ frames := 5, cells := 0, slots := 0, locals := 107 }) cX5_readWord RX5 5 J) (hE : ∀ (v : Int32) (σ : (OS × OS)) (pc : Nat) (L : List (Nat × Value)), some (v, σ) = some q → decode cX5_readWord pc = .ok (.areturn, 1) → (gx_ve aa v = .null ∨ ∃ a, gx_ve aa v = .ref a) → J 0 0 (sC aa ad t σ ++ rs) pc L [gx_ve aa v])  : ∀ (n : Nat) (σ : (OS × OS)) (v1 : Int32) (v2 : Int32), fX5_readWord_4 n σ v1 v2 = some q → J 0 0 (sC aa ad t σ ++ rs) 4 [(0, .ref (ad 0)), (1, .int v1), (2, .int v2)] [] := by
  intro n
  induction n with
  | zero => intro σ v1 v2 hf; cases hf
  | succ n ih =>
    intro σ v1 v2 hf
    replace hf := (fX5_readWord_4_s n σ v1 v2).symm.trans hf
    refine j_iload_n (pc := 4) g 2 dX5_readWord_4 rfl ?_
    refine j_getsN (pc := 5) g e_all q_ef_X5_80 rfl dX5_readWord_5 ?_
    refine j_tlen (pc := 8) g e_allT dX5_readWord_8 ?_
    refine j_icmp_ge (tgt := 67) (pc := 9) g dX5_readWord_9 (by decide) (fun c_9 => ?_) (fun c_9 => ?_)
    · have hf := gx_it c_9 hf
      refine j_aload_n (pc := 67) g 0 dX5_readWord_67 rfl ?_
      refine j_dup (pc := 68) g dX5_readWord_68 rfl ?_
      refine gS_X5_0_1 (σ := σ) (pc := 69) g dX5_readWord_69 ?_
      refine j_iload_n (pc := 72) g 1 dX5_readWord_72 rfl ?_
      refine j_iadd (pc := 73) g dX5_readWord_73 ?_
      refine pS_X5_0_1 (σ := σ) (pc := 74) g dX5_readWord_74 ?_
      refine j_null (pc := 77) g dX5_readWord_77 ?_
      exact hE _ _ _ _ hf dX5_readWord_78 (gx_ve_or aa _)
    · have hf := gx_if c_9 hf
      refine j_getsN (pc := 12) g e_all q_ef_X5_80 rfl dX5_readWord_12 ?_
      refine j_iload_n (pc := 15) g 2 dX5_readWord_15 rfl ?_
      obtain ⟨h_16, hf⟩ := gx_ck hf
      refine j_allq (pc := 16) g h_16 dX5_readWord_16 ?_
      refine j_word (pc := 17) g h_16 q_f_X5_84 dX5_readWord_17 ?_
      refine j_astore_n (L' := [(3, .ref (aa.1 (gx_wd v2.toNatClampNeg))), (0, .ref (ad 0)), (1, .int v1), (2, .int v2)]) (pc := 20) g dX5_readWord_20 rfl (Nat.le_of_ble_eq_true rfl) rfl ?_
      refine j_aload_n (pc := 21) g 1 dX5_readWord_21 rfl ?_
      refine j_aload_n (pc := 22) g 0 dX5_readWord_22 rfl ?_
      obtain ⟨r23, h_23, hf⟩ := gx_bs hf
      refine cS_X5_countAlike (σ := σ) (pc := 23) g (cX5_countAlike_ h_23) ⟨Nat.le_of_ble_eq_true rfl, Nat.le_of_ble_eq_true rfl⟩ ⟨Nat.zero_le _, Nat.zero_le _⟩ (Nat.le_of_ble_eq_true rfl) dX5_readWord_23 ?_
      refine j_istore (L' := [(4, .int r23), (3, .ref (aa.1 (gx_wd v2.toNatClampNeg))), (0, .ref (ad 0)), (1, .int v1), (2, .int v2)]) (pc := 26) g dX5_readWord_26 (Nat.le_of_ble_eq_true rfl) rfl ?_
      refine j_iload_n (pc := 28) g 3 dX5_readWord_28 rfl ?_
      refine j_iload (pc := 29) g 0 dX5_readWord_29 rfl ?_
      refine j_max (pc := 31) g q_l_X5_92 q_t_mathmax q_n_math q_c_mathmax (Nat.le_of_ble_eq_true rfl) (Nat.le_of_ble_eq_true rfl) ⟨Nat.zero_le _, Nat.zero_le _⟩ dX5_readWord_31 ?_
      refine j_istore_n (L' := [(1, .int (if v1 < r23 then r23 else v1)), (4, .int r23), (3, .ref (aa.1 (gx_wd v2.toNatClampNeg))), (0, .ref (ad 0)), (2, .int v2)]) (pc := 34) g dX5_readWord_34 rfl (Nat.le_of_ble_eq_true rfl) rfl ?_
      refine j_iload (pc := 35) g 1 dX5_readWord_35 rfl ?_
      refine j_aload_n (pc := 37) g 2 dX5_readWord_37 rfl ?_
      obtain ⟨h_38, hf⟩ := gx_ck hf
      refine j_callVEi (pc := 38) (na := 0) (As := []) (rest := [.int r23]) g (c_strlen h_38) (e_so h_38) q_i_J0_length_8abf5 q_s_J0_length_8abf5 q_c_J0_length_8abf5 q_l_X5_98 q_n_J0 (by decide +kernel) rfl ⟨Nat.le_of_ble_eq_true rfl, Nat.le_of_ble_eq_true rfl⟩ ⟨Nat.zero_le _, Nat.zero_le _⟩ (Nat.le_of_ble_eq_true rfl) (.refl _) (.refl _) dX5_readWord_38 ?_ rfl
      refine j_icmp_ne (tgt := 61) (pc := 41) g dX5_readWord_41 (by decide) (fun c_41 => ?_) (fun c_41 => ?_)
      · have hf := gx_if c_41 hf
        refine j_iinc (v := v2 + 1) (L' := [(2, .int (v2 + 1)), (1, .int (if v1 < r23 then r23 else v1)), (4, .int r23), (3, .ref (aa.1 (gx_wd v2.toNatClampNeg))), (0, .ref (ad 0))]) (pc := 61) g 4 dX5_readWord_61 rfl rfl (Nat.le_of_ble_eq_true rfl) rfl ?_
        refine j_goto (tgt := 4) (pc := 64) g dX5_readWord_64 (by decide) ?_
        refine j_sub (pc := 4) g [4, 1, 0] rfl ?_
        exact ih σ (if v1 < r23 then r23 else v1) (v2 + 1) hf
      · have hf := gx_it c_41 hf
        refine j_aload_n (pc := 44) g 3 dX5_readWord_44 rfl ?_
        refine j_dup (pc := 45) g dX5_readWord_45 rfl ?_
        refine gS_X5_0_1 (σ := σ) (pc := 46) g dX5_readWord_46 ?_
        refine j_iload (pc := 49) g 1 dX5_readWord_49 rfl ?_
        refine j_iadd (pc := 51) g dX5_readWord_51 ?_
        refine pS_X5_0_1 (σ := σ) (pc := 52) g dX5_readWord_52 ?_
        refine j_getsN (pc := 55) g e_all q_ef_X5_80 rfl dX5_readWord_55 ?_
        refine j_iload_n (pc := 58) g 4 dX5_readWord_58 rfl ?_
        obtain ⟨h_59, hf⟩ := gx_ck hf
        refine j_allq (pc := 59) g h_59 dX5_readWord_59 ?_
        exact hE _ _ _ _ hf dX5_readWord_60 (gx_ve_or aa _)
set_option maxRecDepth 100000 in
set_option maxHeartbeats 4000000 in
theorem cX5_readWord_ {D : va_G} {t : Nat → ClassId} {aa : gx_AA} {l : Launch} {ad : Nat → Nat} {rs : va_W} {σ : (OS × OS)} {q : (Int32 × (OS × OS))} (hf : fX5_readWord σ = some q) : gx_C D t (gx_E0 aa) l yX5_readWord cX5_readWord 5 (some (.object "CommandChain$Verb")) 5 107 [.ref (ad 0)] (sC aa ad t σ ++ rs) (sC aa ad t q.2 ++ rs) (some (gx_ve aa q.1)) := by
  refine gx_intro_a (by decide) (Nat.le_of_ble_eq_true rfl) (fun J g hE0 => ?_)
  have hE : ∀ (v : Int32) (σ : (OS × OS)) (pc : Nat) (L : List (Nat × Value)), some (v, σ) = some q → decode cX5_readWord pc = .ok (.areturn, 1) → (gx_ve aa v = .null ∨ ∃ a, gx_ve aa v = .ref a) → J 0 0 (sC aa ad t σ ++ rs) pc L [gx_ve aa v] := fun v σ pc L h h1 h2 => by cases h; exact hE0 pc L h1 h2
  unfold fX5_readWord at hf
  show J 0 0 (sC aa ad t σ ++ rs) 0 [(0, .ref (ad 0))] []
  refine j_iconst (v := 0) (pc := 0) g dX5_readWord_0 (by decide) ?_
  refine j_istore_n (L' := [(1, .int (0 : Int32)), (0, .ref (ad 0))]) (pc := 1) g dX5_readWord_1 rfl (Nat.le_of_ble_eq_true rfl) rfl ?_
  refine j_iconst (v := 0) (pc := 2) g dX5_readWord_2 (by decide) ?_
  refine j_istore_n (L' := [(2, .int (0 : Int32)), (1, .int (0 : Int32)), (0, .ref (ad 0))]) (pc := 3) g dX5_readWord_3 rfl (Nat.le_of_ble_eq_true rfl) rfl ?_
  refine j_sub (pc := 4) g [2, 1, 0] rfl ?_
  exact tX5_readWord_4 g hE 2000 σ (0 : Int32) (0 : Int32) hf
theorem cS_X5_X5_accept_0 {D : va_G} {t : Nat → ClassId} {aa : gx_AA} {l : Launch} {R : Room} {cc : ByteArray} {nL : Nat} {J : gx_J} {ad : Nat → Nat} {rs : va_W} {k n pc : Nat} {L : List (Nat × Value)} {rest : List Value} (g : gx_G D t (gx_E0 aa) l R cc RX5 nL J) {σ : (OS × OS)} {x0 : Int32} {q : (Int32 × (OS × OS))} {fr lo : Nat} (hC : gx_C D t (gx_E0 aa) l yX5_accept cX5_accept 2 (some .boolean) fr lo [.ref (ad 0), .int x0] (sC aa ad t σ ++ rs) (sC aa ad t q.2 ++ rs) (some (.int q.1))) (hR : fr + 1 ≤ R.frames ∧ 8 + (2 + 11) + lo ≤ R.locals) (hkn : k ≤ R.cells ∧ n ≤ R.slots) (hcat : (rest.map fun v => v.category).sum ≤ 8) (hd : decode cc pc = .ok (.invokevirtual 32, 3)) (kk : J k n (sC aa ad t q.2 ++ rs) (pc + 3) L (.int q.1 :: rest)) : J k n (sC aa ad t σ ++ rs) pc L (.int x0 :: .ref (ad 0) :: rest) := j_callVi (na := 1) (As := [.int x0]) (q0 := 0) (ci := 7) g hC q_i_X5_accept q_s_X5_accept rfl rfl rfl q_c_X5_accept q_l_X5_32 q_n_X5 (by decide +kernel) rfl hR hkn hcat (.refl _) (.refl _) hd kk rfl
set_option maxRecDepth 100000 in
set_option maxHeartbeats 4000000 in
theorem tX5_readNumber_15 {D : va_G} {t : Nat → ClassId} {aa : gx_AA} {l : Launch} {J : gx_J} {ad : Nat → Nat} {rs : va_W} {q : (Int32 × (OS × OS))} (g : gx_G D t (gx_E0 aa) l ({ frames := 2, cells := 0, slots := 0, locals := 43 }) cX5_readNumber RX5 5 J) (hE : ∀ (v : Int32) (σ : (OS × OS)) (pc : Nat) (L : List (Nat × Value)), some (v, σ) = some q → decode cX5_readNumber pc = .ok (.ireturn, 1) → narrow .int (.int v) = .int v → J 0 0 (sC aa ad t σ ++ rs) pc L [.int v])  : ∀ (n : Nat) (σ : (OS × OS)) (v1 : Int32) (v2 : Int32) (v3 : Int32), fX5_readNumber_15 n σ v1 v2 v3 = some q → J 0 0 (sC aa ad t σ ++ rs) 15 [(0, .ref (ad 0)), (1, .int v1), (2, .int v2), (3, .int v3)] [] := by
  intro n
  induction n with
  | zero => intro σ v1 v2 v3 hf; cases hf
  | succ n ih =>
    intro σ v1 v2 v3 hf
    replace hf := (fX5_readNumber_15_s n σ v1 v2 v3).symm.trans hf
    refine j_iload_n (pc := 15) g 3 dX5_readNumber_15 rfl ?_
    refine j_iload_n (pc := 16) g 1 dX5_readNumber_16 rfl ?_
    refine j_icmp_ge (tgt := 63) (pc := 17) g dX5_readNumber_17 (by decide) (fun c_17 => ?_) (fun c_17 => ?_)
    · have hf := gx_it c_17 hf
      refine j_iload_n (pc := 63) g 2 dX5_readNumber_63 rfl ?_
      exact hE _ _ _ _ hf dX5_readNumber_64 rfl
    · have hf := gx_if c_17 hf
      refine j_aload_n (pc := 20) g 0 dX5_readNumber_20 rfl ?_
      refine j_bipush (v := 48) (pc := 21) g dX5_readNumber_21 (by decide) ?_
      refine j_bipush (v := 57) (pc := 23) g dX5_readNumber_23 (by decide) ?_
      obtain ⟨r25, h_25, hf⟩ := gx_bs hf
      refine cS_X5_X5_readBetween_0 (σ := σ) (pc := 25) g (cX5_readBetween_ h_25) ⟨Nat.le_of_ble_eq_true rfl, Nat.le_of_ble_eq_true rfl⟩ ⟨Nat.zero_le _, Nat.zero_le _⟩ (Nat.le_of_ble_eq_true rfl) dX5_readNumber_25 ?_
      refine j_istore (L' := [(4, .int r25.1), (0, .ref (ad 0)), (1, .int v1), (2, .int v2), (3, .int v3)]) (pc := 28) g dX5_readNumber_28 (Nat.le_of_ble_eq_true rfl) rfl ?_
      refine j_iload (pc := 30) g 0 dX5_readNumber_30 rfl ?_
      refine j_iconst (v := -1) (pc := 32) g dX5_readNumber_32 (by decide) ?_
      refine j_icmp_ne (tgt := 46) (pc := 33) g dX5_readNumber_33 (by decide) (fun c_33 => ?_) (fun c_33 => ?_)
      · have hf := gx_if c_33 hf
        refine j_iload_n (pc := 46) g 3 dX5_readNumber_46 rfl ?_
        refine j_bipush (v := 10) (pc := 47) g dX5_readNumber_47 (by decide) ?_
        refine j_imul (pc := 49) g dX5_readNumber_49 ?_
        refine j_iload (pc := 50) g 0 dX5_readNumber_50 rfl ?_
        refine j_iadd (pc := 52) g dX5_readNumber_52 ?_
        refine j_bipush (v := 48) (pc := 53) g dX5_readNumber_53 (by decide) ?_
        refine j_isub (pc := 55) g dX5_readNumber_55 ?_
        refine j_istore_n (L' := [(2, .int (((v2 * (10 : Int32)) + r25.1) - (48 : Int32))), (4, .int r25.1), (0, .ref (ad 0)), (1, .int v1), (3, .int v3)]) (pc := 56) g dX5_readNumber_56 rfl (Nat.le_of_ble_eq_true rfl) rfl ?_
        refine j_iinc (v := v3 + 1) (L' := [(3, .int (v3 + 1)), (2, .int (((v2 * (10 : Int32)) + r25.1) - (48 : Int32))), (4, .int r25.1), (0, .ref (ad 0)), (1, .int v1)]) (pc := 57) g 4 dX5_readNumber_57 rfl rfl (Nat.le_of_ble_eq_true rfl) rfl ?_
        refine j_goto (tgt := 15) (pc := 60) g dX5_readNumber_60 (by decide) ?_
        refine j_sub (pc := 15) g [3, 4, 1, 0] rfl ?_
        exact ih r25.2 v1 (((v2 * (10 : Int32)) + r25.1) - (48 : Int32)) (v3 + 1) hf
      · have hf := gx_it c_33 hf
        refine j_iload_n (pc := 36) g 4 dX5_readNumber_36 rfl ?_
        refine j_if_le (tgt := 44) (pc := 37) g dX5_readNumber_37 (by decide) (fun c_37 => ?_) (fun c_37 => ?_)
        · have hf := gx_it c_37 hf
          refine j_iconst (v := -1) (pc := 44) g dX5_readNumber_44 (by decide) ?_
          exact hE _ _ _ _ hf dX5_readNumber_45 rfl
        · have hf := gx_if c_37 hf
          refine j_iload_n (pc := 40) g 3 dX5_readNumber_40 rfl ?_
          refine j_goto (tgt := 45) (pc := 41) g dX5_readNumber_41 (by decide) ?_
          exact hE _ _ _ _ hf dX5_readNumber_45 rfl
set_option maxRecDepth 100000 in
set_option maxHeartbeats 4000000 in
theorem cX5_readNumber_ {D : va_G} {t : Nat → ClassId} {aa : gx_AA} {l : Launch} {ad : Nat → Nat} {rs : va_W} {σ : (OS × OS)} {p1 : Int32} {q : (Int32 × (OS × OS))} (hf : fX5_readNumber σ p1 = some q) : gx_C D t (gx_E0 aa) l yX5_readNumber cX5_readNumber 5 (some .int) 2 43 [.ref (ad 0), .int p1] (sC aa ad t σ ++ rs) (sC aa ad t q.2 ++ rs) (some (.int q.1)) := by
  refine gx_intro_i (by decide) (Nat.le_of_ble_eq_true rfl) (fun J g hE0 => ?_)
  have hE : ∀ (v : Int32) (σ : (OS × OS)) (pc : Nat) (L : List (Nat × Value)), some (v, σ) = some q → decode cX5_readNumber pc = .ok (.ireturn, 1) → narrow .int (.int v) = .int v → J 0 0 (sC aa ad t σ ++ rs) pc L [.int v] := fun v σ pc L h h1 h2 => by cases h; exact hE0 pc L h1 h2
  unfold fX5_readNumber at hf
  show J 0 0 (sC aa ad t σ ++ rs) 0 [(0, .ref (ad 0)), (1, .int p1)] []
  refine j_aload_n (pc := 0) g 0 dX5_readNumber_0 rfl ?_
  refine j_bipush (v := 32) (pc := 1) g dX5_readNumber_1 (by decide) ?_
  obtain ⟨r3, h_3, hf⟩ := gx_bs hf
  refine cS_X5_X5_accept_0 (σ := σ) (pc := 3) g (cX5_accept_ h_3) ⟨Nat.le_of_ble_eq_true rfl, Nat.le_of_ble_eq_true rfl⟩ ⟨Nat.zero_le _, Nat.zero_le _⟩ (Nat.le_of_ble_eq_true rfl) dX5_readNumber_3 ?_
  refine j_if_ne (tgt := 11) (pc := 6) g dX5_readNumber_6 (by decide) (fun c_6 => ?_) (fun c_6 => ?_)
  · have hf := gx_if c_6 hf
    refine j_iconst (v := 0) (pc := 11) g dX5_readNumber_11 (by decide) ?_
    refine j_istore_n (L' := [(2, .int (0 : Int32)), (0, .ref (ad 0)), (1, .int p1)]) (pc := 12) g dX5_readNumber_12 rfl (Nat.le_of_ble_eq_true rfl) rfl ?_
    refine j_iconst (v := 0) (pc := 13) g dX5_readNumber_13 (by decide) ?_
    refine j_istore_n (L' := [(3, .int (0 : Int32)), (2, .int (0 : Int32)), (0, .ref (ad 0)), (1, .int p1)]) (pc := 14) g dX5_readNumber_14 rfl (Nat.le_of_ble_eq_true rfl) rfl ?_
    refine j_sub (pc := 15) g [2, 3, 1, 0] rfl ?_
    exact tX5_readNumber_15 g hE 2000 r3.2 p1 (0 : Int32) (0 : Int32) hf
  · have hf := gx_it c_6 hf
    refine j_iconst (v := -1) (pc := 9) g dX5_readNumber_9 (by decide) ?_
    exact hE _ _ _ _ hf dX5_readNumber_10 rfl
theorem cS_readWord {D : va_G} {t : Nat → ClassId} {aa : gx_AA} {l : Launch} {R : Room} {cc : ByteArray} {nL : Nat} {J : gx_J} {ad : Nat → Nat} {rs : va_W} {k n pc : Nat} {L : List (Nat × Value)} {rest : List Value} (g : gx_G D t (gx_E0 aa) l R cc RX5 nL J) {σ : (OS × OS)} {q : (Int32 × (OS × OS))} {fr lo : Nat} (hC : gx_C D t (gx_E0 aa) l yX5_readWord cX5_readWord 5 (some (.object "CommandChain$Verb")) fr lo [.ref (ad 0)] (sC aa ad t σ ++ rs) (sC aa ad t q.2 ++ rs) (some (gx_ve aa q.1))) (hR : fr + 1 ≤ R.frames ∧ 8 + (5 + 11) + lo ≤ R.locals) (hkn : k ≤ R.cells ∧ n ≤ R.slots) (hcat : (rest.map fun v => v.category).sum ≤ 8) (hd : decode cc pc = .ok (.invokevirtual 36, 3)) (kk : J k n (sC aa ad t q.2 ++ rs) (pc + 3) L (gx_ve aa q.1 :: rest)) : J k n (sC aa ad t σ ++ rs) pc L (.ref (ad 0) :: rest) := j_callVa (na := 0) (As := []) (q0 := 0) (ci := 7) g hC q_i_X5_readWord q_s_X5_readWord rfl rfl rfl q_c_X5_readWord q_l_X5_36 q_n_X5 (by decide +kernel) rfl hR hkn hcat (.refl _) (.refl _) hd kk rfl
theorem pS_verb {D : va_G} {t : Nat → ClassId} {aa : gx_AA} {l : Launch} {R : Room} {cc : ByteArray} {nL : Nat} {J : gx_J} {ad : Nat → Nat} {rs : va_W} {k n pc : Nat} {L : List (Nat × Value)} {st : List Value} (g : gx_G D t (gx_E0 aa) l R cc RX5 nL J) {σ : (OS × OS)} {v : Int32} (hd : decode cc pc = .ok (.putfield 40, 3)) (kk : J k n (sC aa ad t (os_sf σ.1 2 v, σ.2) ++ rs) (pc + 3) L st) : J k n (sC aa ad t σ ++ rs) pc L (gx_ve aa v :: .ref (ad 0) :: st) := j_put (w' := sC aa ad t (os_sf σ.1 2 v, σ.2) ++ rs) g in_X5 0 rfl rfl 2 (by decide) q_f_X5_40 rfl tyX5 tyX5_ok nmX5 rfl (ty := .object "CommandChain$Verb") (by decide +kernel) (gx_ve_n aa v) (gx_ve_f aa v) (Nat.le_of_ble_eq_true rfl) rfl hd kk
theorem gS_verb_X5 {D : va_G} {t : Nat → ClassId} {aa : gx_AA} {l : Launch} {R : Room} {cc : ByteArray} {nL : Nat} {J : gx_J} {ad : Nat → Nat} {rs : va_W} {k n pc : Nat} {L : List (Nat × Value)} {st : List Value} (g : gx_G D t (gx_E0 aa) l R cc RX5 nL J) {σ : (OS × OS)} (hd : decode cc pc = .ok (.getfield 40, 3)) (kk : J k n (sC aa ad t σ ++ rs) (pc + 3) L (gx_ve aa (os_f σ.1 2) :: st)) : J k n (sC aa ad t σ ++ rs) pc L (.ref (ad 0) :: st) := j_get g in_X5 0 rfl rfl 2 (by decide) q_f_X5_40 rfl rfl hd kk
theorem cS_X5_X5_readNumber_0 {D : va_G} {t : Nat → ClassId} {aa : gx_AA} {l : Launch} {R : Room} {cc : ByteArray} {nL : Nat} {J : gx_J} {ad : Nat → Nat} {rs : va_W} {k n pc : Nat} {L : List (Nat × Value)} {rest : List Value} (g : gx_G D t (gx_E0 aa) l R cc RX5 nL J) {σ : (OS × OS)} {x0 : Int32} {q : (Int32 × (OS × OS))} {fr lo : Nat} (hC : gx_C D t (gx_E0 aa) l yX5_readNumber cX5_readNumber 5 (some .int) fr lo [.ref (ad 0), .int x0] (sC aa ad t σ ++ rs) (sC aa ad t q.2 ++ rs) (some (.int q.1))) (hR : fr + 1 ≤ R.frames ∧ 8 + (5 + 11) + lo ≤ R.locals) (hkn : k ≤ R.cells ∧ n ≤ R.slots) (hcat : (rest.map fun v => v.category).sum ≤ 8) (hd : decode cc pc = .ok (.invokevirtual 111, 3)) (kk : J k n (sC aa ad t q.2 ++ rs) (pc + 3) L (.int q.1 :: rest)) : J k n (sC aa ad t σ ++ rs) pc L (.int x0 :: .ref (ad 0) :: rest) := j_callVi (na := 1) (As := [.int x0]) (q0 := 0) (ci := 7) g hC q_i_X5_readNumber q_s_X5_readNumber rfl rfl rfl q_c_X5_readNumber q_l_X5_111 q_n_X5 (by decide +kernel) rfl hR hkn hcat (.refl _) (.refl _) hd kk rfl
set_option maxRecDepth 100000 in
set_option maxHeartbeats 4000000 in
theorem cX5_readFirst_ {D : va_G} {t : Nat → ClassId} {aa : gx_AA} {l : Launch} {ad : Nat → Nat} {rs : va_W} {σ : (OS × OS)} {p1 : Int32} {q : (Int32 × (OS × OS))} (hf : fX5_readFirst σ p1 = some q) : gx_C D t (gx_E0 aa) l yX5_readFirst cX5_readFirst 2 (some .boolean) 3 67 [.ref (ad 0), .int p1] (sC aa ad t σ ++ rs) (sC aa ad t q.2 ++ rs) (some (.int q.1)) := by
  refine gx_intro_i (by decide) (Nat.le_of_ble_eq_true rfl) (fun J g hE0 => ?_)
  have hE : ∀ (v : Int32) (σ : (OS × OS)) (pc : Nat) (L : List (Nat × Value)), some (v, σ) = some q → decode cX5_readFirst pc = .ok (.ireturn, 1) → narrow .boolean (.int v) = .int v → J 0 0 (sC aa ad t σ ++ rs) pc L [.int v] := fun v σ pc L h h1 h2 => by cases h; exact hE0 pc L h1 h2
  unfold fX5_readFirst at hf
  show J 0 0 (sC aa ad t σ ++ rs) 0 [(0, .ref (ad 0)), (1, .int p1)] []
  refine j_aload_n (pc := 0) g 0 dX5_readFirst_0 rfl ?_
  refine j_aload_n (pc := 1) g 0 dX5_readFirst_1 rfl ?_
  refine j_iload_n (pc := 2) g 1 dX5_readFirst_2 rfl ?_
  obtain ⟨r3, h_3, hf⟩ := gx_bs hf
  refine cS_X5_X5_readNumber_0 (σ := σ) (pc := 3) g (cX5_readNumber_ h_3) ⟨Nat.le_of_ble_eq_true rfl, Nat.le_of_ble_eq_true rfl⟩ ⟨Nat.zero_le _, Nat.zero_le _⟩ (Nat.le_of_ble_eq_true rfl) dX5_readFirst_3 ?_
  refine pS_X5_0_3 (σ := r3.2) (pc := 6) g dX5_readFirst_6 ?_
  refine j_aload_n (pc := 9) g 0 dX5_readFirst_9 rfl ?_
  refine gS_X5_0_3 (σ := (os_sf r3.2.1 3 r3.1, r3.2.2)) (pc := 10) g dX5_readFirst_10 ?_
  refine j_iconst (v := -1) (pc := 13) g dX5_readFirst_13 (by decide) ?_
  refine j_icmp_eq (tgt := 21) (pc := 14) g dX5_readFirst_14 (by decide) (fun c_14 => ?_) (fun c_14 => ?_)
  · have hf := gx_it c_14 hf
    refine j_iconst (v := 0) (pc := 21) g dX5_readFirst_21 (by decide) ?_
    exact hE _ _ _ _ hf dX5_readFirst_22 rfl
  · have hf := gx_if c_14 hf
    refine j_iconst (v := 1) (pc := 17) g dX5_readFirst_17 (by decide) ?_
    refine j_goto (tgt := 22) (pc := 18) g dX5_readFirst_18 (by decide) ?_
    exact hE _ _ _ _ hf dX5_readFirst_22 rfl

set_option maxRecDepth 100000 in
set_option maxHeartbeats 4000000 in
theorem cX5_readSecond_ {D : va_G} {t : Nat → ClassId} {aa : gx_AA} {l : Launch} {ad : Nat → Nat} {rs : va_W} {σ : (OS × OS)} {p1 : Int32} {q : (Int32 × (OS × OS))} (hf : fX5_readSecond σ p1 = some q) : gx_C D t (gx_E0 aa) l yX5_readSecond cX5_readSecond 2 (some .boolean) 3 67 [.ref (ad 0), .int p1] (sC aa ad t σ ++ rs) (sC aa ad t q.2 ++ rs) (some (.int q.1)) := by
  refine gx_intro_i (by decide) (Nat.le_of_ble_eq_true rfl) (fun J g hE0 => ?_)
  have hE : ∀ (v : Int32) (σ : (OS × OS)) (pc : Nat) (L : List (Nat × Value)), some (v, σ) = some q → decode cX5_readSecond pc = .ok (.ireturn, 1) → narrow .boolean (.int v) = .int v → J 0 0 (sC aa ad t σ ++ rs) pc L [.int v] := fun v σ pc L h h1 h2 => by cases h; exact hE0 pc L h1 h2
  unfold fX5_readSecond at hf
  show J 0 0 (sC aa ad t σ ++ rs) 0 [(0, .ref (ad 0)), (1, .int p1)] []
  refine j_aload_n (pc := 0) g 0 dX5_readSecond_0 rfl ?_
  refine j_aload_n (pc := 1) g 0 dX5_readSecond_1 rfl ?_
  refine j_iload_n (pc := 2) g 1 dX5_readSecond_2 rfl ?_
  obtain ⟨r3, h_3, hf⟩ := gx_bs hf
  refine cS_X5_X5_readNumber_0 (σ := σ) (pc := 3) g (cX5_readNumber_ h_3) ⟨Nat.le_of_ble_eq_true rfl, Nat.le_of_ble_eq_true rfl⟩ ⟨Nat.zero_le _, Nat.zero_le _⟩ (Nat.le_of_ble_eq_true rfl) dX5_readSecond_3 ?_
  refine pS_X5_0_4 (σ := r3.2) (pc := 6) g dX5_readSecond_6 ?_
  refine j_aload_n (pc := 9) g 0 dX5_readSecond_9 rfl ?_
  refine gS_X5_0_4 (σ := (os_sf r3.2.1 4 r3.1, r3.2.2)) (pc := 10) g dX5_readSecond_10 ?_
  refine j_iconst (v := -1) (pc := 13) g dX5_readSecond_13 (by decide) ?_
  refine j_icmp_eq (tgt := 21) (pc := 14) g dX5_readSecond_14 (by decide) (fun c_14 => ?_) (fun c_14 => ?_)
  · have hf := gx_it c_14 hf
    refine j_iconst (v := 0) (pc := 21) g dX5_readSecond_21 (by decide) ?_
    exact hE _ _ _ _ hf dX5_readSecond_22 rfl
  · have hf := gx_if c_14 hf
    refine j_iconst (v := 1) (pc := 17) g dX5_readSecond_17 (by decide) ?_
    refine j_goto (tgt := 22) (pc := 18) g dX5_readSecond_18 (by decide) ?_
    exact hE _ _ _ _ hf dX5_readSecond_22 rfl
theorem pS_X5_0_5 {D : va_G} {t : Nat → ClassId} {aa : gx_AA} {l : Launch} {R : Room} {cc : ByteArray} {nL : Nat} {J : gx_J} {ad : Nat → Nat} {rs : va_W} {k n pc : Nat} {L : List (Nat × Value)} {st : List Value} (g : gx_G D t (gx_E0 aa) l R cc RX5 nL J) {σ : (OS × OS)} {v : Int32} (hd : decode cc pc = .ok (.putfield 121, 3)) (kk : J k n (sC aa ad t (os_sf σ.1 5 v, σ.2) ++ rs) (pc + 3) L st) : J k n (sC aa ad t σ ++ rs) pc L (.int v :: .ref (ad 0) :: st) := j_put (w' := sC aa ad t (os_sf σ.1 5 v, σ.2) ++ rs) g in_X5 0 rfl rfl 5 (by decide) q_f_X5_121 rfl tyX5 tyX5_ok nmX5 rfl (ty := .int) (by decide +kernel) rfl rfl (Nat.le_of_ble_eq_true rfl) rfl hd kk
theorem gS_X5_0_5 {D : va_G} {t : Nat → ClassId} {aa : gx_AA} {l : Launch} {R : Room} {cc : ByteArray} {nL : Nat} {J : gx_J} {ad : Nat → Nat} {rs : va_W} {k n pc : Nat} {L : List (Nat × Value)} {st : List Value} (g : gx_G D t (gx_E0 aa) l R cc RX5 nL J) {σ : (OS × OS)} (hd : decode cc pc = .ok (.getfield 121, 3)) (kk : J k n (sC aa ad t σ ++ rs) (pc + 3) L (.int (os_f σ.1 5) :: st)) : J k n (sC aa ad t σ ++ rs) pc L (.ref (ad 0) :: st) := j_get g in_X5 0 rfl rfl 5 (by decide) q_f_X5_121 rfl rfl hd kk
set_option maxRecDepth 100000 in
set_option maxHeartbeats 4000000 in
theorem cX5_readThird_ {D : va_G} {t : Nat → ClassId} {aa : gx_AA} {l : Launch} {ad : Nat → Nat} {rs : va_W} {σ : (OS × OS)} {p1 : Int32} {q : (Int32 × (OS × OS))} (hf : fX5_readThird σ p1 = some q) : gx_C D t (gx_E0 aa) l yX5_readThird cX5_readThird 2 (some .boolean) 3 67 [.ref (ad 0), .int p1] (sC aa ad t σ ++ rs) (sC aa ad t q.2 ++ rs) (some (.int q.1)) := by
  refine gx_intro_i (by decide) (Nat.le_of_ble_eq_true rfl) (fun J g hE0 => ?_)
  have hE : ∀ (v : Int32) (σ : (OS × OS)) (pc : Nat) (L : List (Nat × Value)), some (v, σ) = some q → decode cX5_readThird pc = .ok (.ireturn, 1) → narrow .boolean (.int v) = .int v → J 0 0 (sC aa ad t σ ++ rs) pc L [.int v] := fun v σ pc L h h1 h2 => by cases h; exact hE0 pc L h1 h2
  unfold fX5_readThird at hf
  show J 0 0 (sC aa ad t σ ++ rs) 0 [(0, .ref (ad 0)), (1, .int p1)] []
  refine j_aload_n (pc := 0) g 0 dX5_readThird_0 rfl ?_
  refine j_aload_n (pc := 1) g 0 dX5_readThird_1 rfl ?_
  refine j_iload_n (pc := 2) g 1 dX5_readThird_2 rfl ?_
  obtain ⟨r3, h_3, hf⟩ := gx_bs hf
  refine cS_X5_X5_readNumber_0 (σ := σ) (pc := 3) g (cX5_readNumber_ h_3) ⟨Nat.le_of_ble_eq_true rfl, Nat.le_of_ble_eq_true rfl⟩ ⟨Nat.zero_le _, Nat.zero_le _⟩ (Nat.le_of_ble_eq_true rfl) dX5_readThird_3 ?_
  refine pS_X5_0_5 (σ := r3.2) (pc := 6) g dX5_readThird_6 ?_
  refine j_aload_n (pc := 9) g 0 dX5_readThird_9 rfl ?_
  refine gS_X5_0_5 (σ := (os_sf r3.2.1 5 r3.1, r3.2.2)) (pc := 10) g dX5_readThird_10 ?_
  refine j_iconst (v := -1) (pc := 13) g dX5_readThird_13 (by decide) ?_
  refine j_icmp_eq (tgt := 21) (pc := 14) g dX5_readThird_14 (by decide) (fun c_14 => ?_) (fun c_14 => ?_)
  · have hf := gx_it c_14 hf
    refine j_iconst (v := 0) (pc := 21) g dX5_readThird_21 (by decide) ?_
    exact hE _ _ _ _ hf dX5_readThird_22 rfl
  · have hf := gx_if c_14 hf
    refine j_iconst (v := 1) (pc := 17) g dX5_readThird_17 (by decide) ?_
    refine j_goto (tgt := 22) (pc := 18) g dX5_readThird_18 (by decide) ?_
    exact hE _ _ _ _ hf dX5_readThird_22 rfl
theorem cS_X5_X5_readFirst_0 {D : va_G} {t : Nat → ClassId} {aa : gx_AA} {l : Launch} {R : Room} {cc : ByteArray} {nL : Nat} {J : gx_J} {ad : Nat → Nat} {rs : va_W} {k n pc : Nat} {L : List (Nat × Value)} {rest : List Value} (g : gx_G D t (gx_E0 aa) l R cc RX5 nL J) {σ : (OS × OS)} {x0 : Int32} {q : (Int32 × (OS × OS))} {fr lo : Nat} (hC : gx_C D t (gx_E0 aa) l yX5_readFirst cX5_readFirst 2 (some .boolean) fr lo [.ref (ad 0), .int x0] (sC aa ad t σ ++ rs) (sC aa ad t q.2 ++ rs) (some (.int q.1))) (hR : fr + 1 ≤ R.frames ∧ 8 + (2 + 11) + lo ≤ R.locals) (hkn : k ≤ R.cells ∧ n ≤ R.slots) (hcat : (rest.map fun v => v.category).sum ≤ 8) (hd : decode cc pc = .ok (.invokevirtual 49, 3)) (kk : J k n (sC aa ad t q.2 ++ rs) (pc + 3) L (.int q.1 :: rest)) : J k n (sC aa ad t σ ++ rs) pc L (.int x0 :: .ref (ad 0) :: rest) := j_callVi (na := 1) (As := [.int x0]) (q0 := 0) (ci := 7) g hC q_i_X5_readFirst q_s_X5_readFirst rfl rfl rfl q_c_X5_readFirst q_l_X5_49 q_n_X5 (by decide +kernel) rfl hR hkn hcat (.refl _) (.refl _) hd kk rfl
set_option maxRecDepth 100000 in
set_option maxHeartbeats 4000000 in
theorem cX5_readHours_ {D : va_G} {t : Nat → ClassId} {aa : gx_AA} {l : Launch} {ad : Nat → Nat} {rs : va_W} {σ : (OS × OS)} {q : (Int32 × (OS × OS))} (hf : fX5_readHours σ = some q) : gx_C D t (gx_E0 aa) l yX5_readHours cX5_readHours 1 (some .boolean) 4 88 [.ref (ad 0)] (sC aa ad t σ ++ rs) (sC aa ad t q.2 ++ rs) (some (.int q.1)) := by
  refine gx_intro_i (by decide) (Nat.le_of_ble_eq_true rfl) (fun J g hE0 => ?_)
  have hE : ∀ (v : Int32) (σ : (OS × OS)) (pc : Nat) (L : List (Nat × Value)), some (v, σ) = some q → decode cX5_readHours pc = .ok (.ireturn, 1) → narrow .boolean (.int v) = .int v → J 0 0 (sC aa ad t σ ++ rs) pc L [.int v] := fun v σ pc L h h1 h2 => by cases h; exact hE0 pc L h1 h2
  unfold fX5_readHours at hf
  show J 0 0 (sC aa ad t σ ++ rs) 0 [(0, .ref (ad 0))] []
  refine j_aload_n (pc := 0) g 0 dX5_readHours_0 rfl ?_
  refine j_aload_n (pc := 1) g 0 dX5_readHours_1 rfl ?_
  refine gS_X5_0_1 (σ := σ) (pc := 2) g dX5_readHours_2 ?_
  refine j_bipush (v := 32) (pc := 5) g dX5_readHours_5 (by decide) ?_
  obtain ⟨r7, h_7, hf⟩ := gx_bs hf
  refine cS_X5_X5_stands_0 (σ := σ) (pc := 7) g (cX5_stands_ h_7) ⟨Nat.le_of_ble_eq_true rfl, Nat.le_of_ble_eq_true rfl⟩ ⟨Nat.zero_le _, Nat.zero_le _⟩ (Nat.le_of_ble_eq_true rfl) dX5_readHours_7 ?_
  refine j_if_eq (tgt := 19) (pc := 10) g dX5_readHours_10 (by decide) (fun c_10 => ?_) (fun c_10 => ?_)
  · have hf := gx_it c_10 hf
    refine j_aload_n (pc := 19) g 0 dX5_readHours_19 rfl ?_
    refine j_iconst (v := 1) (pc := 20) g dX5_readHours_20 (by decide) ?_
    refine pS_X5_0_3 (σ := σ) (pc := 21) g dX5_readHours_21 ?_
    refine j_iconst (v := 1) (pc := 24) g dX5_readHours_24 (by decide) ?_
    exact hE _ _ _ _ hf dX5_readHours_25 rfl
  · have hf := gx_if c_10 hf
    refine j_aload_n (pc := 13) g 0 dX5_readHours_13 rfl ?_
    refine j_iconst (v := 2) (pc := 14) g dX5_readHours_14 (by decide) ?_
    obtain ⟨r15, h_15, hf⟩ := gx_bs hf
    refine cS_X5_X5_readFirst_0 (σ := σ) (pc := 15) g (cX5_readFirst_ h_15) ⟨Nat.le_of_ble_eq_true rfl, Nat.le_of_ble_eq_true rfl⟩ ⟨Nat.zero_le _, Nat.zero_le _⟩ (Nat.le_of_ble_eq_true rfl) dX5_readHours_15 ?_
    obtain ⟨h_r, hf⟩ := gx_ck hf
    exact hE _ _ _ _ hf dX5_readHours_18 (gx_narZ h_r)
theorem cS_X5_X5_readHours_0 {D : va_G} {t : Nat → ClassId} {aa : gx_AA} {l : Launch} {R : Room} {cc : ByteArray} {nL : Nat} {J : gx_J} {ad : Nat → Nat} {rs : va_W} {k n pc : Nat} {L : List (Nat × Value)} {rest : List Value} (g : gx_G D t (gx_E0 aa) l R cc RX5 nL J) {σ : (OS × OS)} {q : (Int32 × (OS × OS))} {fr lo : Nat} (hC : gx_C D t (gx_E0 aa) l yX5_readHours cX5_readHours 1 (some .boolean) fr lo [.ref (ad 0)] (sC aa ad t σ ++ rs) (sC aa ad t q.2 ++ rs) (some (.int q.1))) (hR : fr + 1 ≤ R.frames ∧ 8 + (1 + 11) + lo ≤ R.locals) (hkn : k ≤ R.cells ∧ n ≤ R.slots) (hcat : (rest.map fun v => v.category).sum ≤ 8) (hd : decode cc pc = .ok (.invokevirtual 77, 3)) (kk : J k n (sC aa ad t q.2 ++ rs) (pc + 3) L (.int q.1 :: rest)) : J k n (sC aa ad t σ ++ rs) pc L (.ref (ad 0) :: rest) := j_callVi (na := 0) (As := []) (q0 := 0) (ci := 7) g hC q_i_X5_readHours q_s_X5_readHours rfl rfl rfl q_c_X5_readHours q_l_X5_77 q_n_X5 (by decide +kernel) rfl hR hkn hcat (.refl _) (.refl _) hd kk rfl
theorem cS_X5_X5_readLetters_0 {D : va_G} {t : Nat → ClassId} {aa : gx_AA} {l : Launch} {R : Room} {cc : ByteArray} {nL : Nat} {J : gx_J} {ad : Nat → Nat} {rs : va_W} {k n pc : Nat} {L : List (Nat × Value)} {rest : List Value} (g : gx_G D t (gx_E0 aa) l R cc RX5 nL J) {σ : (OS × OS)} {q : (Int32 × (OS × OS))} {fr lo : Nat} (hC : gx_C D t (gx_E0 aa) l yX5_readLetters cX5_readLetters 1 (some .boolean) fr lo [.ref (ad 0)] (sC aa ad t σ ++ rs) (sC aa ad t q.2 ++ rs) (some (.int q.1))) (hR : fr + 1 ≤ R.frames ∧ 8 + (1 + 11) + lo ≤ R.locals) (hkn : k ≤ R.cells ∧ n ≤ R.slots) (hcat : (rest.map fun v => v.category).sum ≤ 8) (hd : decode cc pc = .ok (.invokevirtual 71, 3)) (kk : J k n (sC aa ad t q.2 ++ rs) (pc + 3) L (.int q.1 :: rest)) : J k n (sC aa ad t σ ++ rs) pc L (.ref (ad 0) :: rest) := j_callVi (na := 0) (As := []) (q0 := 0) (ci := 7) g hC q_i_X5_readLetters q_s_X5_readLetters rfl rfl rfl q_c_X5_readLetters q_l_X5_71 q_n_X5 (by decide +kernel) rfl hR hkn hcat (.refl _) (.refl _) hd kk rfl
theorem cS_X5_X5_readThird_0 {D : va_G} {t : Nat → ClassId} {aa : gx_AA} {l : Launch} {R : Room} {cc : ByteArray} {nL : Nat} {J : gx_J} {ad : Nat → Nat} {rs : va_W} {k n pc : Nat} {L : List (Nat × Value)} {rest : List Value} (g : gx_G D t (gx_E0 aa) l R cc RX5 nL J) {σ : (OS × OS)} {x0 : Int32} {q : (Int32 × (OS × OS))} {fr lo : Nat} (hC : gx_C D t (gx_E0 aa) l yX5_readThird cX5_readThird 2 (some .boolean) fr lo [.ref (ad 0), .int x0] (sC aa ad t σ ++ rs) (sC aa ad t q.2 ++ rs) (some (.int q.1))) (hR : fr + 1 ≤ R.frames ∧ 8 + (2 + 11) + lo ≤ R.locals) (hkn : k ≤ R.cells ∧ n ≤ R.slots) (hcat : (rest.map fun v => v.category).sum ≤ 8) (hd : decode cc pc = .ok (.invokevirtual 56, 3)) (kk : J k n (sC aa ad t q.2 ++ rs) (pc + 3) L (.int q.1 :: rest)) : J k n (sC aa ad t σ ++ rs) pc L (.int x0 :: .ref (ad 0) :: rest) := j_callVi (na := 1) (As := [.int x0]) (q0 := 0) (ci := 7) g hC q_i_X5_readThird q_s_X5_readThird rfl rfl rfl q_c_X5_readThird q_l_X5_56 q_n_X5 (by decide +kernel) rfl hR hkn hcat (.refl _) (.refl _) hd kk rfl
theorem cS_X5_X5_readSecond_0 {D : va_G} {t : Nat → ClassId} {aa : gx_AA} {l : Launch} {R : Room} {cc : ByteArray} {nL : Nat} {J : gx_J} {ad : Nat → Nat} {rs : va_W} {k n pc : Nat} {L : List (Nat × Value)} {rest : List Value} (g : gx_G D t (gx_E0 aa) l R cc RX5 nL J) {σ : (OS × OS)} {x0 : Int32} {q : (Int32 × (OS × OS))} {fr lo : Nat} (hC : gx_C D t (gx_E0 aa) l yX5_readSecond cX5_readSecond 2 (some .boolean) fr lo [.ref (ad 0), .int x0] (sC aa ad t σ ++ rs) (sC aa ad t q.2 ++ rs) (some (.int q.1))) (hR : fr + 1 ≤ R.frames ∧ 8 + (2 + 11) + lo ≤ R.locals) (hkn : k ≤ R.cells ∧ n ≤ R.slots) (hcat : (rest.map fun v => v.category).sum ≤ 8) (hd : decode cc pc = .ok (.invokevirtual 53, 3)) (kk : J k n (sC aa ad t q.2 ++ rs) (pc + 3) L (.int q.1 :: rest)) : J k n (sC aa ad t σ ++ rs) pc L (.int x0 :: .ref (ad 0) :: rest) := j_callVi (na := 1) (As := [.int x0]) (q0 := 0) (ci := 7) g hC q_i_X5_readSecond q_s_X5_readSecond rfl rfl rfl q_c_X5_readSecond q_l_X5_53 q_n_X5 (by decide +kernel) rfl hR hkn hcat (.refl _) (.refl _) hd kk rfl
set_option maxRecDepth 100000 in
set_option maxHeartbeats 4000000 in
theorem tX5_readNext_18 {D : va_G} {t : Nat → ClassId} {aa : gx_AA} {l : Launch} {J : gx_J} {ad : Nat → Nat} {rs : va_W} {q : (Int32 × (OS × OS))} (g : gx_G D t (gx_E0 aa) l ({ frames := 6, cells := 0, slots := 0, locals := 131 }) cX5_readNext RX5 1 J) (hE : ∀ (v : Int32) (σ : (OS × OS)) (pc : Nat) (L : List (Nat × Value)), some (v, σ) = some q → decode cX5_readNext pc = .ok (.ireturn, 1) → narrow .boolean (.int v) = .int v → J 0 0 (sC aa ad t σ ++ rs) pc L [.int v])  : ∀ (σ : (OS × OS)), fX5_readNext_18 σ = some q → J 0 0 (sC aa ad t σ ++ rs) 18 [(0, .ref (ad 0))] [] := by
  intro σ hf
  unfold fX5_readNext_18 at hf
  refine j_aload_n (pc := 18) g 0 dX5_readNext_18 rfl ?_
  refine j_aload_n (pc := 19) g 0 dX5_readNext_19 rfl ?_
  obtain ⟨r20, h_20, hf⟩ := gx_bs hf
  refine cS_readWord (σ := σ) (pc := 20) g (cX5_readWord_ h_20) ⟨Nat.le_of_ble_eq_true rfl, Nat.le_of_ble_eq_true rfl⟩ ⟨Nat.zero_le _, Nat.zero_le _⟩ (Nat.le_of_ble_eq_true rfl) dX5_readNext_20 ?_
  refine pS_verb (σ := r20.2) (pc := 23) g dX5_readNext_23 ?_
  refine j_aload_n (pc := 26) g 0 dX5_readNext_26 rfl ?_
  refine gS_verb_X5 (σ := (os_sf r20.2.1 2 r20.1, r20.2.2)) (pc := 27) g dX5_readNext_27 ?_
  refine j_gets (pc := 30) g (v := gx_ve aa 1) (e_verb (i := 0) (by decide)) q_f_X5_44 rfl dX5_readNext_30 ?_
  obtain ⟨h_33, hf⟩ := gx_ck hf
  refine j_acmp_ne (x := (os_f (os_sf r20.2.1 2 r20.1) 2)) (y := (1 : Int32)) (tgt := 66) (pc := 33) g h_33 (by decide) dX5_readNext_33 (by decide) (fun c_33 => ?_) (fun c_33 => ?_)
  · have hf := gx_if c_33 hf
    refine j_aload_n (pc := 66) g 0 dX5_readNext_66 rfl ?_
    refine gS_verb_X5 (σ := (os_sf r20.2.1 2 r20.1, r20.2.2)) (pc := 67) g dX5_readNext_67 ?_
    refine j_gets (pc := 70) g (v := gx_ve aa 2) (e_verb (i := 1) (by decide)) q_f_X5_59 rfl dX5_readNext_70 ?_
    obtain ⟨h_73, hf⟩ := gx_ck hf
    refine j_acmp_ne (x := (os_f (os_sf r20.2.1 2 r20.1) 2)) (y := (2 : Int32)) (tgt := 98) (pc := 73) g h_73 (by decide) dX5_readNext_73 (by decide) (fun c_73 => ?_) (fun c_73 => ?_)
    · have hf := gx_if c_73 hf
      refine j_aload_n (pc := 98) g 0 dX5_readNext_98 rfl ?_
      refine gS_verb_X5 (σ := (os_sf r20.2.1 2 r20.1, r20.2.2)) (pc := 99) g dX5_readNext_99 ?_
      refine j_gets (pc := 102) g (v := gx_ve aa 3) (e_verb (i := 2) (by decide)) q_f_X5_62 rfl dX5_readNext_102 ?_
      obtain ⟨h_105, hf⟩ := gx_ck hf
      refine j_acmp_ne (x := (os_f (os_sf r20.2.1 2 r20.1) 2)) (y := (3 : Int32)) (tgt := 114) (pc := 105) g h_105 (by decide) dX5_readNext_105 (by decide) (fun c_105 => ?_) (fun c_105 => ?_)
      · have hf := gx_if c_105 hf
        refine j_aload_n (pc := 114) g 0 dX5_readNext_114 rfl ?_
        refine gS_verb_X5 (σ := (os_sf r20.2.1 2 r20.1, r20.2.2)) (pc := 115) g dX5_readNext_115 ?_
        refine j_gets (pc := 118) g (v := gx_ve aa 4) (e_verb (i := 3) (by decide)) q_f_X5_65 rfl dX5_readNext_118 ?_
        obtain ⟨h_121, hf⟩ := gx_ck hf
        refine j_acmp_ne (x := (os_f (os_sf r20.2.1 2 r20.1) 2)) (y := (4 : Int32)) (tgt := 154) (pc := 121) g h_121 (by decide) dX5_readNext_121 (by decide) (fun c_121 => ?_) (fun c_121 => ?_)
        · have hf := gx_if c_121 hf
          refine j_aload_n (pc := 154) g 0 dX5_readNext_154 rfl ?_
          refine gS_verb_X5 (σ := (os_sf r20.2.1 2 r20.1, r20.2.2)) (pc := 155) g dX5_readNext_155 ?_
          refine j_gets (pc := 158) g (v := gx_ve aa 5) (e_verb (i := 4) (by decide)) q_f_X5_68 rfl dX5_readNext_158 ?_
          obtain ⟨h_161, hf⟩ := gx_ck hf
          refine j_acmp_ne (x := (os_f (os_sf r20.2.1 2 r20.1) 2)) (y := (5 : Int32)) (tgt := 194) (pc := 161) g h_161 (by decide) dX5_readNext_161 (by decide) (fun c_161 => ?_) (fun c_161 => ?_)
          · have hf := gx_if c_161 hf
            refine j_aload_n (pc := 194) g 0 dX5_readNext_194 rfl ?_
            refine gS_verb_X5 (σ := (os_sf r20.2.1 2 r20.1, r20.2.2)) (pc := 195) g dX5_readNext_195 ?_
            refine j_gets (pc := 198) g (v := gx_ve aa 6) (e_verb (i := 5) (by decide)) q_f_X5_74 rfl dX5_readNext_198 ?_
            obtain ⟨h_201, hf⟩ := gx_ck hf
            refine j_acmp_ne (x := (os_f (os_sf r20.2.1 2 r20.1) 2)) (y := (6 : Int32)) (tgt := 215) (pc := 201) g h_201 (by decide) dX5_readNext_201 (by decide) (fun c_201 => ?_) (fun c_201 => ?_)
            · have hf := gx_if c_201 hf
              refine j_iconst (v := 0) (pc := 215) g dX5_readNext_215 (by decide) ?_
              exact hE _ _ _ _ hf dX5_readNext_216 rfl
            · have hf := gx_it c_201 hf
              refine j_aload_n (pc := 204) g 0 dX5_readNext_204 rfl ?_
              obtain ⟨r205, h_205, hf⟩ := gx_bs hf
              refine cS_X5_X5_readHours_0 (σ := (os_sf r20.2.1 2 r20.1, r20.2.2)) (pc := 205) g (cX5_readHours_ h_205) ⟨Nat.le_of_ble_eq_true rfl, Nat.le_of_ble_eq_true rfl⟩ ⟨Nat.zero_le _, Nat.zero_le _⟩ (Nat.le_of_ble_eq_true rfl) dX5_readNext_205 ?_
              refine j_if_eq (tgt := 215) (pc := 208) g dX5_readNext_208 (by decide) (fun c_208 => ?_) (fun c_208 => ?_)
              · have hf := gx_it c_208 hf
                refine j_iconst (v := 0) (pc := 215) g dX5_readNext_215 (by decide) ?_
                exact hE _ _ _ _ hf dX5_readNext_216 rfl
              · have hf := gx_if c_208 hf
                refine j_iconst (v := 1) (pc := 211) g dX5_readNext_211 (by decide) ?_
                refine j_goto (tgt := 216) (pc := 212) g dX5_readNext_212 (by decide) ?_
                exact hE _ _ _ _ hf dX5_readNext_216 rfl
          · have hf := gx_it c_161 hf
            refine j_aload_n (pc := 164) g 0 dX5_readNext_164 rfl ?_
            refine j_bipush (v := 32) (pc := 165) g dX5_readNext_165 (by decide) ?_
            obtain ⟨r167, h_167, hf⟩ := gx_bs hf
            refine cS_X5_X5_accept_0 (σ := (os_sf r20.2.1 2 r20.1, r20.2.2)) (pc := 167) g (cX5_accept_ h_167) ⟨Nat.le_of_ble_eq_true rfl, Nat.le_of_ble_eq_true rfl⟩ ⟨Nat.zero_le _, Nat.zero_le _⟩ (Nat.le_of_ble_eq_true rfl) dX5_readNext_167 ?_
            refine j_if_eq (tgt := 192) (pc := 170) g dX5_readNext_170 (by decide) (fun c_170 => ?_) (fun c_170 => ?_)
            · have hf := gx_it c_170 hf
              refine j_iconst (v := 0) (pc := 192) g dX5_readNext_192 (by decide) ?_
              exact hE _ _ _ _ hf dX5_readNext_193 rfl
            · have hf := gx_if c_170 hf
              refine j_aload_n (pc := 173) g 0 dX5_readNext_173 rfl ?_
              obtain ⟨r174, h_174, hf⟩ := gx_bs hf
              refine cS_X5_X5_readLetters_0 (σ := r167.2) (pc := 174) g (cX5_readLetters_ h_174) ⟨Nat.le_of_ble_eq_true rfl, Nat.le_of_ble_eq_true rfl⟩ ⟨Nat.zero_le _, Nat.zero_le _⟩ (Nat.le_of_ble_eq_true rfl) dX5_readNext_174 ?_
              refine j_if_eq (tgt := 192) (pc := 177) g dX5_readNext_177 (by decide) (fun c_177 => ?_) (fun c_177 => ?_)
              · have hf := gx_it c_177 hf
                refine j_iconst (v := 0) (pc := 192) g dX5_readNext_192 (by decide) ?_
                exact hE _ _ _ _ hf dX5_readNext_193 rfl
              · have hf := gx_if c_177 hf
                refine j_aload_n (pc := 180) g 0 dX5_readNext_180 rfl ?_
                refine j_iconst (v := 2) (pc := 181) g dX5_readNext_181 (by decide) ?_
                obtain ⟨r182, h_182, hf⟩ := gx_bs hf
                refine cS_X5_X5_readThird_0 (σ := r174.2) (pc := 182) g (cX5_readThird_ h_182) ⟨Nat.le_of_ble_eq_true rfl, Nat.le_of_ble_eq_true rfl⟩ ⟨Nat.zero_le _, Nat.zero_le _⟩ (Nat.le_of_ble_eq_true rfl) dX5_readNext_182 ?_
                refine j_if_eq (tgt := 192) (pc := 185) g dX5_readNext_185 (by decide) (fun c_185 => ?_) (fun c_185 => ?_)
                · have hf := gx_it c_185 hf
                  refine j_iconst (v := 0) (pc := 192) g dX5_readNext_192 (by decide) ?_
                  exact hE _ _ _ _ hf dX5_readNext_193 rfl
                · have hf := gx_if c_185 hf
                  refine j_iconst (v := 1) (pc := 188) g dX5_readNext_188 (by decide) ?_
                  refine j_goto (tgt := 193) (pc := 189) g dX5_readNext_189 (by decide) ?_
                  exact hE _ _ _ _ hf dX5_readNext_193 rfl
        · have hf := gx_it c_121 hf
          refine j_aload_n (pc := 124) g 0 dX5_readNext_124 rfl ?_
          refine j_iconst (v := 2) (pc := 125) g dX5_readNext_125 (by decide) ?_
          obtain ⟨r126, h_126, hf⟩ := gx_bs hf
          refine cS_X5_X5_readFirst_0 (σ := (os_sf r20.2.1 2 r20.1, r20.2.2)) (pc := 126) g (cX5_readFirst_ h_126) ⟨Nat.le_of_ble_eq_true rfl, Nat.le_of_ble_eq_true rfl⟩ ⟨Nat.zero_le _, Nat.zero_le _⟩ (Nat.le_of_ble_eq_true rfl) dX5_readNext_126 ?_
          refine j_if_eq (tgt := 152) (pc := 129) g dX5_readNext_129 (by decide) (fun c_129 => ?_) (fun c_129 => ?_)
          · have hf := gx_it c_129 hf
            refine j_iconst (v := 0) (pc := 152) g dX5_readNext_152 (by decide) ?_
            exact hE _ _ _ _ hf dX5_readNext_153 rfl
          · have hf := gx_if c_129 hf
            refine j_aload_n (pc := 132) g 0 dX5_readNext_132 rfl ?_
            refine j_iconst (v := 2) (pc := 133) g dX5_readNext_133 (by decide) ?_
            obtain ⟨r134, h_134, hf⟩ := gx_bs hf
            refine cS_X5_X5_readSecond_0 (σ := r126.2) (pc := 134) g (cX5_readSecond_ h_134) ⟨Nat.le_of_ble_eq_true rfl, Nat.le_of_ble_eq_true rfl⟩ ⟨Nat.zero_le _, Nat.zero_le _⟩ (Nat.le_of_ble_eq_true rfl) dX5_readNext_134 ?_
            refine j_if_eq (tgt := 152) (pc := 137) g dX5_readNext_137 (by decide) (fun c_137 => ?_) (fun c_137 => ?_)
            · have hf := gx_it c_137 hf
              refine j_iconst (v := 0) (pc := 152) g dX5_readNext_152 (by decide) ?_
              exact hE _ _ _ _ hf dX5_readNext_153 rfl
            · have hf := gx_if c_137 hf
              refine j_aload_n (pc := 140) g 0 dX5_readNext_140 rfl ?_
              refine j_iconst (v := 3) (pc := 141) g dX5_readNext_141 (by decide) ?_
              obtain ⟨r142, h_142, hf⟩ := gx_bs hf
              refine cS_X5_X5_readThird_0 (σ := r134.2) (pc := 142) g (cX5_readThird_ h_142) ⟨Nat.le_of_ble_eq_true rfl, Nat.le_of_ble_eq_true rfl⟩ ⟨Nat.zero_le _, Nat.zero_le _⟩ (Nat.le_of_ble_eq_true rfl) dX5_readNext_142 ?_
              refine j_if_eq (tgt := 152) (pc := 145) g dX5_readNext_145 (by decide) (fun c_145 => ?_) (fun c_145 => ?_)
              · have hf := gx_it c_145 hf
                refine j_iconst (v := 0) (pc := 152) g dX5_readNext_152 (by decide) ?_
                exact hE _ _ _ _ hf dX5_readNext_153 rfl
              · have hf := gx_if c_145 hf
                refine j_iconst (v := 1) (pc := 148) g dX5_readNext_148 (by decide) ?_
                refine j_goto (tgt := 153) (pc := 149) g dX5_readNext_149 (by decide) ?_
                exact hE _ _ _ _ hf dX5_readNext_153 rfl
      · have hf := gx_it c_105 hf
        refine j_aload_n (pc := 108) g 0 dX5_readNext_108 rfl ?_
        refine j_iconst (v := 2) (pc := 109) g dX5_readNext_109 (by decide) ?_
        obtain ⟨r110, h_110, hf⟩ := gx_bs hf
        refine cS_X5_X5_readFirst_0 (σ := (os_sf r20.2.1 2 r20.1, r20.2.2)) (pc := 110) g (cX5_readFirst_ h_110) ⟨Nat.le_of_ble_eq_true rfl, Nat.le_of_ble_eq_true rfl⟩ ⟨Nat.zero_le _, Nat.zero_le _⟩ (Nat.le_of_ble_eq_true rfl) dX5_readNext_110 ?_
        obtain ⟨h_r, hf⟩ := gx_ck hf
        exact hE _ _ _ _ hf dX5_readNext_113 (gx_narZ h_r)
    · have hf := gx_it c_73 hf
      refine j_aload_n (pc := 76) g 0 dX5_readNext_76 rfl ?_
      refine j_iconst (v := 2) (pc := 77) g dX5_readNext_77 (by decide) ?_
      obtain ⟨r78, h_78, hf⟩ := gx_bs hf
      refine cS_X5_X5_readFirst_0 (σ := (os_sf r20.2.1 2 r20.1, r20.2.2)) (pc := 78) g (cX5_readFirst_ h_78) ⟨Nat.le_of_ble_eq_true rfl, Nat.le_of_ble_eq_true rfl⟩ ⟨Nat.zero_le _, Nat.zero_le _⟩ (Nat.le_of_ble_eq_true rfl) dX5_readNext_78 ?_
      refine j_if_eq (tgt := 96) (pc := 81) g dX5_readNext_81 (by decide) (fun c_81 => ?_) (fun c_81 => ?_)
      · have hf := gx_it c_81 hf
        refine j_iconst (v := 0) (pc := 96) g dX5_readNext_96 (by decide) ?_
        exact hE _ _ _ _ hf dX5_readNext_97 rfl
      · have hf := gx_if c_81 hf
        refine j_aload_n (pc := 84) g 0 dX5_readNext_84 rfl ?_
        refine j_iconst (v := 2) (pc := 85) g dX5_readNext_85 (by decide) ?_
        obtain ⟨r86, h_86, hf⟩ := gx_bs hf
        refine cS_X5_X5_readSecond_0 (σ := r78.2) (pc := 86) g (cX5_readSecond_ h_86) ⟨Nat.le_of_ble_eq_true rfl, Nat.le_of_ble_eq_true rfl⟩ ⟨Nat.zero_le _, Nat.zero_le _⟩ (Nat.le_of_ble_eq_true rfl) dX5_readNext_86 ?_
        refine j_if_eq (tgt := 96) (pc := 89) g dX5_readNext_89 (by decide) (fun c_89 => ?_) (fun c_89 => ?_)
        · have hf := gx_it c_89 hf
          refine j_iconst (v := 0) (pc := 96) g dX5_readNext_96 (by decide) ?_
          exact hE _ _ _ _ hf dX5_readNext_97 rfl
        · have hf := gx_if c_89 hf
          refine j_iconst (v := 1) (pc := 92) g dX5_readNext_92 (by decide) ?_
          refine j_goto (tgt := 97) (pc := 93) g dX5_readNext_93 (by decide) ?_
          exact hE _ _ _ _ hf dX5_readNext_97 rfl
  · have hf := gx_it c_33 hf
    refine j_aload_n (pc := 36) g 0 dX5_readNext_36 rfl ?_
    refine j_iconst (v := 2) (pc := 37) g dX5_readNext_37 (by decide) ?_
    obtain ⟨r38, h_38, hf⟩ := gx_bs hf
    refine cS_X5_X5_readFirst_0 (σ := (os_sf r20.2.1 2 r20.1, r20.2.2)) (pc := 38) g (cX5_readFirst_ h_38) ⟨Nat.le_of_ble_eq_true rfl, Nat.le_of_ble_eq_true rfl⟩ ⟨Nat.zero_le _, Nat.zero_le _⟩ (Nat.le_of_ble_eq_true rfl) dX5_readNext_38 ?_
    refine j_if_eq (tgt := 64) (pc := 41) g dX5_readNext_41 (by decide) (fun c_41 => ?_) (fun c_41 => ?_)
    · have hf := gx_it c_41 hf
      refine j_iconst (v := 0) (pc := 64) g dX5_readNext_64 (by decide) ?_
      exact hE _ _ _ _ hf dX5_readNext_65 rfl
    · have hf := gx_if c_41 hf
      refine j_aload_n (pc := 44) g 0 dX5_readNext_44 rfl ?_
      refine j_iconst (v := 1) (pc := 45) g dX5_readNext_45 (by decide) ?_
      obtain ⟨r46, h_46, hf⟩ := gx_bs hf
      refine cS_X5_X5_readSecond_0 (σ := r38.2) (pc := 46) g (cX5_readSecond_ h_46) ⟨Nat.le_of_ble_eq_true rfl, Nat.le_of_ble_eq_true rfl⟩ ⟨Nat.zero_le _, Nat.zero_le _⟩ (Nat.le_of_ble_eq_true rfl) dX5_readNext_46 ?_
      refine j_if_eq (tgt := 64) (pc := 49) g dX5_readNext_49 (by decide) (fun c_49 => ?_) (fun c_49 => ?_)
      · have hf := gx_it c_49 hf
        refine j_iconst (v := 0) (pc := 64) g dX5_readNext_64 (by decide) ?_
        exact hE _ _ _ _ hf dX5_readNext_65 rfl
      · have hf := gx_if c_49 hf
        refine j_aload_n (pc := 52) g 0 dX5_readNext_52 rfl ?_
        refine j_iconst (v := 3) (pc := 53) g dX5_readNext_53 (by decide) ?_
        obtain ⟨r54, h_54, hf⟩ := gx_bs hf
        refine cS_X5_X5_readThird_0 (σ := r46.2) (pc := 54) g (cX5_readThird_ h_54) ⟨Nat.le_of_ble_eq_true rfl, Nat.le_of_ble_eq_true rfl⟩ ⟨Nat.zero_le _, Nat.zero_le _⟩ (Nat.le_of_ble_eq_true rfl) dX5_readNext_54 ?_
        refine j_if_eq (tgt := 64) (pc := 57) g dX5_readNext_57 (by decide) (fun c_57 => ?_) (fun c_57 => ?_)
        · have hf := gx_it c_57 hf
          refine j_iconst (v := 0) (pc := 64) g dX5_readNext_64 (by decide) ?_
          exact hE _ _ _ _ hf dX5_readNext_65 rfl
        · have hf := gx_if c_57 hf
          refine j_iconst (v := 1) (pc := 60) g dX5_readNext_60 (by decide) ?_
          refine j_goto (tgt := 65) (pc := 61) g dX5_readNext_61 (by decide) ?_
          exact hE _ _ _ _ hf dX5_readNext_65 rfl
set_option maxRecDepth 100000 in
set_option maxHeartbeats 4000000 in
theorem cX5_readNext_ {D : va_G} {t : Nat → ClassId} {aa : gx_AA} {l : Launch} {ad : Nat → Nat} {rs : va_W} {σ : (OS × OS)} {q : (Int32 × (OS × OS))} (hf : fX5_readNext σ = some q) : gx_C D t (gx_E0 aa) l yX5_readNext cX5_readNext 1 (some .boolean) 6 131 [.ref (ad 0)] (sC aa ad t σ ++ rs) (sC aa ad t q.2 ++ rs) (some (.int q.1)) := by
  refine gx_intro_i (by decide) (Nat.le_of_ble_eq_true rfl) (fun J g hE0 => ?_)
  have hE : ∀ (v : Int32) (σ : (OS × OS)) (pc : Nat) (L : List (Nat × Value)), some (v, σ) = some q → decode cX5_readNext pc = .ok (.ireturn, 1) → narrow .boolean (.int v) = .int v → J 0 0 (sC aa ad t σ ++ rs) pc L [.int v] := fun v σ pc L h h1 h2 => by cases h; exact hE0 pc L h1 h2
  unfold fX5_readNext at hf
  show J 0 0 (sC aa ad t σ ++ rs) 0 [(0, .ref (ad 0))] []
  refine j_aload_n (pc := 0) g 0 dX5_readNext_0 rfl ?_
  refine gS_X5_0_1 (σ := σ) (pc := 1) g dX5_readNext_1 ?_
  refine j_if_le (tgt := 18) (pc := 4) g dX5_readNext_4 (by decide) (fun c_4 => ?_) (fun c_4 => ?_)
  · have hf := gx_it c_4 hf
    refine j_sub (pc := 18) g [0] rfl ?_
    exact tX5_readNext_18 g hE σ hf
  · have hf := gx_if c_4 hf
    refine j_aload_n (pc := 7) g 0 dX5_readNext_7 rfl ?_
    refine j_bipush (v := 59) (pc := 8) g dX5_readNext_8 (by decide) ?_
    obtain ⟨r10, h_10, hf⟩ := gx_bs hf
    refine cS_X5_X5_accept_0 (σ := σ) (pc := 10) g (cX5_accept_ h_10) ⟨Nat.le_of_ble_eq_true rfl, Nat.le_of_ble_eq_true rfl⟩ ⟨Nat.zero_le _, Nat.zero_le _⟩ (Nat.le_of_ble_eq_true rfl) dX5_readNext_10 ?_
    refine j_if_ne (tgt := 18) (pc := 13) g dX5_readNext_13 (by decide) (fun c_13 => ?_) (fun c_13 => ?_)
    · have hf := gx_if c_13 hf
      refine j_sub (pc := 18) g [0] rfl ?_
      exact tX5_readNext_18 g hE r10.2 hf
    · have hf := gx_it c_13 hf
      refine j_iconst (v := 0) (pc := 16) g dX5_readNext_16 (by decide) ?_
      exact hE _ _ _ _ hf dX5_readNext_17 rfl
theorem cS_X5_X5_readNext_0 {D : va_G} {t : Nat → ClassId} {aa : gx_AA} {l : Launch} {R : Room} {cc : ByteArray} {nL : Nat} {J : gx_J} {ad : Nat → Nat} {rs : va_W} {k n pc : Nat} {L : List (Nat × Value)} {rest : List Value} (g : gx_G D t (gx_E0 aa) l R cc RX5 nL J) {σ : (OS × OS)} {q : (Int32 × (OS × OS))} {fr lo : Nat} (hC : gx_C D t (gx_E0 aa) l yX5_readNext cX5_readNext 1 (some .boolean) fr lo [.ref (ad 0)] (sC aa ad t σ ++ rs) (sC aa ad t q.2 ++ rs) (some (.int q.1))) (hR : fr + 1 ≤ R.frames ∧ 8 + (1 + 11) + lo ≤ R.locals) (hkn : k ≤ R.cells ∧ n ≤ R.slots) (hcat : (rest.map fun v => v.category).sum ≤ 8) (hd : decode cc pc = .ok (.invokevirtual 25, 3)) (kk : J k n (sC aa ad t q.2 ++ rs) (pc + 3) L (.int q.1 :: rest)) : J k n (sC aa ad t σ ++ rs) pc L (.ref (ad 0) :: rest) := j_callVi (na := 0) (As := []) (q0 := 0) (ci := 7) g hC q_i_X5_readNext q_s_X5_readNext rfl rfl rfl q_c_X5_readNext q_l_X5_25 q_n_X5 (by decide +kernel) rfl hR hkn hcat (.refl _) (.refl _) hd kk rfl
set_option maxRecDepth 100000 in
set_option maxHeartbeats 4000000 in
theorem tX5_readAll_6 {D : va_G} {t : Nat → ClassId} {aa : gx_AA} {l : Launch} {J : gx_J} {ad : Nat → Nat} {rs : va_W} {q : (Int32 × (OS × OS))} (g : gx_G D t (gx_E0 aa) l ({ frames := 7, cells := 0, slots := 0, locals := 151 }) cX5_readAll RX5 2 J) (hE : ∀ (v : Int32) (σ : (OS × OS)) (pc : Nat) (L : List (Nat × Value)), some (v, σ) = some q → decode cX5_readAll pc = .ok (.ireturn, 1) → narrow .int (.int v) = .int v → J 0 0 (sC aa ad t σ ++ rs) pc L [.int v])  : ∀ (n : Nat) (σ : (OS × OS)) (v1 : Int32), fX5_readAll_6 n σ v1 = some q → J 0 0 (sC aa ad t σ ++ rs) 6 [(0, .ref (ad 0)), (1, .int v1)] [] := by
  intro n
  induction n with
  | zero => intro σ v1 hf; cases hf
  | succ n ih =>
    intro σ v1 hf
    replace hf := (fX5_readAll_6_s n σ v1).symm.trans hf
    refine j_iload_n (pc := 6) g 1 dX5_readAll_6 rfl ?_
    refine j_bipush (v := 60) (pc := 7) g dX5_readAll_7 (by decide) ?_
    refine j_icmp_gt (tgt := 43) (pc := 9) g dX5_readAll_9 (by decide) (fun c_9 => ?_) (fun c_9 => ?_)
    · have hf := gx_it c_9 hf
      refine j_iconst (v := -1) (pc := 43) g dX5_readAll_43 (by decide) ?_
      exact hE _ _ _ _ hf dX5_readAll_44 rfl
    · have hf := gx_if c_9 hf
      refine j_aload_n (pc := 12) g 0 dX5_readAll_12 rfl ?_
      obtain ⟨r13, h_13, hf⟩ := gx_bs hf
      refine cS_X5_X5_readNext_0 (σ := σ) (pc := 13) g (cX5_readNext_ h_13) ⟨Nat.le_of_ble_eq_true rfl, Nat.le_of_ble_eq_true rfl⟩ ⟨Nat.zero_le _, Nat.zero_le _⟩ (Nat.le_of_ble_eq_true rfl) dX5_readAll_13 ?_
      refine j_if_ne (tgt := 21) (pc := 16) g dX5_readAll_16 (by decide) (fun c_16 => ?_) (fun c_16 => ?_)
      · have hf := gx_if c_16 hf
        refine j_aload_n (pc := 21) g 0 dX5_readAll_21 rfl ?_
        refine gS_X5_0_1 (σ := r13.2) (pc := 22) g dX5_readAll_22 ?_
        refine j_aload_n (pc := 25) g 0 dX5_readAll_25 rfl ?_
        refine gS_X5_0_0 (σ := r13.2) (pc := 26) g dX5_readAll_26 ?_
        refine gS_X5_1_1 (σ := r13.2) (pc := 29) g dX5_readAll_29 ?_
        refine j_icmp_ne (tgt := 37) (pc := 32) g dX5_readAll_32 (by decide) (fun c_32 => ?_) (fun c_32 => ?_)
        · have hf := gx_if c_32 hf
          refine j_iinc (v := v1 + 1) (L' := [(1, .int (v1 + 1)), (0, .ref (ad 0))]) (pc := 37) g 1 dX5_readAll_37 rfl rfl (Nat.le_of_ble_eq_true rfl) rfl ?_
          refine j_goto (tgt := 6) (pc := 40) g dX5_readAll_40 (by decide) ?_
          refine j_sub (pc := 6) g [1, 0] rfl ?_
          exact ih r13.2 (v1 + 1) hf
        · have hf := gx_it c_32 hf
          refine j_iload_n (pc := 35) g 1 dX5_readAll_35 rfl ?_
          exact hE _ _ _ _ hf dX5_readAll_36 rfl
      · have hf := gx_it c_16 hf
        refine j_iconst (v := -1) (pc := 19) g dX5_readAll_19 (by decide) ?_
        exact hE _ _ _ _ hf dX5_readAll_20 rfl
set_option maxRecDepth 100000 in
set_option maxHeartbeats 4000000 in
theorem cX5_readAll_ {D : va_G} {t : Nat → ClassId} {aa : gx_AA} {l : Launch} {ad : Nat → Nat} {rs : va_W} {σ : (OS × OS)} {q : (Int32 × (OS × OS))} (hf : fX5_readAll σ = some q) : gx_C D t (gx_E0 aa) l yX5_readAll cX5_readAll 2 (some .int) 7 151 [.ref (ad 0)] (sC aa ad t σ ++ rs) (sC aa ad t q.2 ++ rs) (some (.int q.1)) := by
  refine gx_intro_i (by decide) (Nat.le_of_ble_eq_true rfl) (fun J g hE0 => ?_)
  have hE : ∀ (v : Int32) (σ : (OS × OS)) (pc : Nat) (L : List (Nat × Value)), some (v, σ) = some q → decode cX5_readAll pc = .ok (.ireturn, 1) → narrow .int (.int v) = .int v → J 0 0 (sC aa ad t σ ++ rs) pc L [.int v] := fun v σ pc L h h1 h2 => by cases h; exact hE0 pc L h1 h2
  unfold fX5_readAll at hf
  show J 0 0 (sC aa ad t σ ++ rs) 0 [(0, .ref (ad 0))] []
  refine j_aload_n (pc := 0) g 0 dX5_readAll_0 rfl ?_
  obtain ⟨r1, h_1, hf⟩ := gx_bs hf
  refine cS_X5_X5_rewind_0 (σ := σ) (pc := 1) g (cX5_rewind_ h_1) ⟨Nat.le_of_ble_eq_true rfl, Nat.le_of_ble_eq_true rfl⟩ ⟨Nat.zero_le _, Nat.zero_le _⟩ (Nat.le_of_ble_eq_true rfl) dX5_readAll_1 ?_
  refine j_iconst (v := 1) (pc := 4) g dX5_readAll_4 (by decide) ?_
  refine j_istore_n (L' := [(1, .int (1 : Int32)), (0, .ref (ad 0))]) (pc := 5) g dX5_readAll_5 rfl (Nat.le_of_ble_eq_true rfl) rfl ?_
  refine j_sub (pc := 6) g [1, 0] rfl ?_
  exact tX5_readAll_6 g hE 2000 r1 (1 : Int32) hf
