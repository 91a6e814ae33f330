
set_option maxRecDepth 100000 in
set_option maxHeartbeats 4000000 in
theorem tX9_says_2 {D : va_G} {t : Nat → ClassId} {aa : gx_AA} {l : Launch} {J : gx_J} {ad : Nat → Nat} {rs : va_W} {q : OS} (g : gx_G D t (gx_E0 aa) l ({ frames := 4, cells := 0, slots := 0, locals := 85 }) cX9_says RX9 3 J) (hE : ∀ (σ : OS) (pc : Nat) (L : List (Nat × Value)), some σ = some q → decode cX9_says pc = .ok (.return_, 1) → J 0 0 (mC ad t σ ++ rs) pc L [])  : ∀ (n : Nat) (σ : OS) (v1 : Nat) (v2 : Int32), fX9_says_2 n σ v1 v2 = some q → J 0 0 (mC ad t σ ++ rs) 2 [(0, .ref (ad 0)), (1, .ref (aa.1 v1)), (2, .int v2)] [] := by
  intro n
  induction n with
  | zero => intro σ v1 v2 hf; cases hf
  | succ n ih =>
    intro σ v1 v2 hf
    replace hf := (fX9_says_2_s n σ v1 v2).symm.trans hf
    refine j_iload_n (pc := 2) g 2 dX9_says_2 rfl ?_
    refine j_aload_n (pc := 3) g 1 dX9_says_3 rfl ?_
    obtain ⟨h_4, hf⟩ := gx_ck hf
    refine j_callVEi (pc := 4) (na := 0) (As := []) (rest := [.int v2]) g (c_strlen h_4) (e_so h_4) q_i_J0_length_8abf5 q_s_J0_length_8abf5 q_c_J0_length_8abf5 q_l_X9_176 q_n_J0 (by decide +kernel) rfl ⟨Nat.le_of_ble_eq_true rfl, Nat.le_of_ble_eq_true rfl⟩ ⟨Nat.zero_le _, Nat.zero_le _⟩ (Nat.le_of_ble_eq_true rfl) (.refl _) (.refl _) dX9_says_4 ?_ rfl
    refine j_icmp_ge (tgt := 66) (pc := 7) g dX9_says_7 (by decide) (fun c_7 => ?_) (fun c_7 => ?_)
    · have hf := gx_it c_7 hf
      exact hE _ _ _ hf dX9_says_66
    · have hf := gx_if c_7 hf
      refine j_aload_n (pc := 10) g 0 dX9_says_10 rfl ?_
      refine m9g_18 (pc := 11) g dX9_says_11 ?_
      refine j_if_ne (tgt := 66) (pc := 14) g dX9_says_14 (by decide) (fun c_14 => ?_) (fun c_14 => ?_)
      · have hf := gx_if c_14 hf
        exact hE _ _ _ hf dX9_says_66
      · have hf := gx_it c_14 hf
        refine j_aload_n (pc := 17) g 0 dX9_says_17 rfl ?_
        refine j_aload_n (pc := 18) g 0 dX9_says_18 rfl ?_
        refine j_iconst (v := 0) (pc := 19) g dX9_says_19 (by decide) ?_
        obtain ⟨r20, h_20, hf⟩ := gx_bs hf
        refine m9c_X9_here (pc := 20) g ⟨Nat.le_of_ble_eq_true rfl, Nat.le_of_ble_eq_true rfl⟩ ⟨Nat.zero_le _, Nat.zero_le _⟩ (Nat.le_of_ble_eq_true rfl) h_20 dX9_says_20 ?_
        refine j_aload_n (pc := 23) g 1 dX9_says_23 rfl ?_
        refine j_iload_n (pc := 24) g 2 dX9_says_24 rfl ?_
        obtain ⟨h_25, hf⟩ := gx_ck hf
        refine j_callVEi (pc := 25) (na := 1) (As := [.int v2]) (rest := [.int r20, .ref (ad 0)]) g (c_strchr h_25.1 h_25.2) (e_so h_25.1) q_i_J0_charAt_5068e q_s_J0_charAt_5068e q_c_J0_charAt_5068e q_l_X9_188 q_n_J0 (by decide +kernel) rfl ⟨Nat.le_of_ble_eq_true rfl, Nat.le_of_ble_eq_true rfl⟩ ⟨Nat.zero_le _, Nat.zero_le _⟩ (Nat.le_of_ble_eq_true rfl) (.refl _) (.refl _) dX9_says_25 ?_ rfl
        refine j_icmp_eq (tgt := 35) (pc := 28) g dX9_says_28 (by decide) (fun c_28 => ?_) (fun c_28 => ?_)
        · have hf := gx_it c_28 hf
          refine j_iconst (v := 0) (pc := 35) g dX9_says_35 (by decide) ?_
          obtain ⟨h_36, hf⟩ := gx_ck hf
          refine m9p_18 (pc := 36) g h_36 dX9_says_36 ?_
          refine j_aload_n (pc := 39) g 0 dX9_says_39 rfl ?_
          refine j_dup (pc := 40) g dX9_says_40 rfl ?_
          refine m9g_15 (pc := 41) g dX9_says_41 ?_
          refine j_aload_n (pc := 44) g 0 dX9_says_44 rfl ?_
          refine m9g_18 (pc := 45) g dX9_says_45 ?_
          refine j_if_eq (tgt := 55) (pc := 48) g dX9_says_48 (by decide) (fun c_48 => ?_) (fun c_48 => ?_)
          · have hf := gx_it c_48 hf
            refine j_iconst (v := 1) (pc := 55) g dX9_says_55 (by decide) ?_
            refine j_iadd (pc := 56) g dX9_says_56 ?_
            refine m9p_15 (pc := 57) g dX9_says_57 ?_
            refine j_iinc (v := v2 + 1) (L' := [(2, .int (v2 + 1)), (0, .ref (ad 0)), (1, .ref (aa.1 v1))]) (pc := 60) g 2 dX9_says_60 rfl rfl (Nat.le_of_ble_eq_true rfl) rfl ?_
            refine j_goto (tgt := 2) (pc := 63) g dX9_says_63 (by decide) ?_
            refine j_sub (pc := 2) g [1, 2, 0] rfl ?_
            exact ih (os_sf (os_sf σ 18 (0 : Int32)) 15 ((os_f (os_sf σ 18 (0 : Int32)) 15) + (1 : Int32))) v1 (v2 + 1) hf
          · have hf := gx_if c_48 hf
            refine j_iconst (v := 0) (pc := 51) g dX9_says_51 (by decide) ?_
            refine j_goto (tgt := 56) (pc := 52) g dX9_says_52 (by decide) ?_
            refine j_iadd (pc := 56) g dX9_says_56 ?_
            refine m9p_15 (pc := 57) g dX9_says_57 ?_
            refine j_iinc (v := v2 + 1) (L' := [(2, .int (v2 + 1)), (0, .ref (ad 0)), (1, .ref (aa.1 v1))]) (pc := 60) g 2 dX9_says_60 rfl rfl (Nat.le_of_ble_eq_true rfl) rfl ?_
            refine j_goto (tgt := 2) (pc := 63) g dX9_says_63 (by decide) ?_
            refine j_sub (pc := 2) g [1, 2, 0] rfl ?_
            exact ih (os_sf (os_sf σ 18 (0 : Int32)) 15 ((os_f (os_sf σ 18 (0 : Int32)) 15) + (0 : Int32))) v1 (v2 + 1) hf
        · have hf := gx_if c_28 hf
          refine j_iconst (v := 1) (pc := 31) g dX9_says_31 (by decide) ?_
          refine j_goto (tgt := 36) (pc := 32) g dX9_says_32 (by decide) ?_
          obtain ⟨h_36, hf⟩ := gx_ck hf
          refine m9p_18 (pc := 36) g h_36 dX9_says_36 ?_
          refine j_aload_n (pc := 39) g 0 dX9_says_39 rfl ?_
          refine j_dup (pc := 40) g dX9_says_40 rfl ?_
          refine m9g_15 (pc := 41) g dX9_says_41 ?_
          refine j_aload_n (pc := 44) g 0 dX9_says_44 rfl ?_
          refine m9g_18 (pc := 45) g dX9_says_45 ?_
          refine j_if_eq (tgt := 55) (pc := 48) g dX9_says_48 (by decide) (fun c_48 => ?_) (fun c_48 => ?_)
          · have hf := gx_it c_48 hf
            refine j_iconst (v := 1) (pc := 55) g dX9_says_55 (by decide) ?_
            refine j_iadd (pc := 56) g dX9_says_56 ?_
            refine m9p_15 (pc := 57) g dX9_says_57 ?_
            refine j_iinc (v := v2 + 1) (L' := [(2, .int (v2 + 1)), (0, .ref (ad 0)), (1, .ref (aa.1 v1))]) (pc := 60) g 2 dX9_says_60 rfl rfl (Nat.le_of_ble_eq_true rfl) rfl ?_
            refine j_goto (tgt := 2) (pc := 63) g dX9_says_63 (by decide) ?_
            refine j_sub (pc := 2) g [1, 2, 0] rfl ?_
            exact ih (os_sf (os_sf σ 18 (1 : Int32)) 15 ((os_f (os_sf σ 18 (1 : Int32)) 15) + (1 : Int32))) v1 (v2 + 1) hf
          · have hf := gx_if c_48 hf
            refine j_iconst (v := 0) (pc := 51) g dX9_says_51 (by decide) ?_
            refine j_goto (tgt := 56) (pc := 52) g dX9_says_52 (by decide) ?_
            refine j_iadd (pc := 56) g dX9_says_56 ?_
            refine m9p_15 (pc := 57) g dX9_says_57 ?_
            refine j_iinc (v := v2 + 1) (L' := [(2, .int (v2 + 1)), (0, .ref (ad 0)), (1, .ref (aa.1 v1))]) (pc := 60) g 2 dX9_says_60 rfl rfl (Nat.le_of_ble_eq_true rfl) rfl ?_
            refine j_goto (tgt := 2) (pc := 63) g dX9_says_63 (by decide) ?_
            refine j_sub (pc := 2) g [1, 2, 0] rfl ?_
            exact ih (os_sf (os_sf σ 18 (1 : Int32)) 15 ((os_f (os_sf σ 18 (1 : Int32)) 15) + (0 : Int32))) v1 (v2 + 1) hf
set_option maxRecDepth 100000 in
set_option maxHeartbeats 4000000 in
theorem cX9_says_ {D : va_G} {t : Nat → ClassId} {aa : gx_AA} {l : Launch} {ad : Nat → Nat} {rs : va_W} {σ : OS} {p1 : Nat} {q : OS} (hf : fX9_says σ p1 = some q) : gx_C D t (gx_E0 aa) l yX9_says cX9_says 3 none 4 85 [.ref (ad 0), .ref (aa.1 p1)] (mC ad t σ ++ rs) (mC ad t q ++ rs) none := by
  refine gx_intro_v (by decide) (Nat.le_of_ble_eq_true rfl) (fun J g hE0 => ?_)
  have hE : ∀ (σ : OS) (pc : Nat) (L : List (Nat × Value)), some σ = some q → decode cX9_says pc = .ok (.return_, 1) → J 0 0 (mC ad t σ ++ rs) pc L [] := fun σ pc L h h1 => by cases h; exact hE0 pc L h1
  unfold fX9_says at hf
  show J 0 0 (mC ad t σ ++ rs) 0 [(0, .ref (ad 0)), (1, .ref (aa.1 p1))] []
  refine j_iconst (v := 0) (pc := 0) g dX9_says_0 (by decide) ?_
  refine j_istore_n (L' := [(2, .int (0 : Int32)), (0, .ref (ad 0)), (1, .ref (aa.1 p1))]) (pc := 1) g dX9_says_1 rfl (Nat.le_of_ble_eq_true rfl) rfl ?_
  refine j_sub (pc := 2) g [1, 2, 0] rfl ?_
  exact tX9_says_2 g hE 2000 σ p1 (0 : Int32) hf
theorem m9c_X9_says {D : va_G} {t : Nat → ClassId} {aa : gx_AA} {l : Launch} {R : Room} {cc : ByteArray} {nL : Nat} {J : gx_J} {ad : Nat → Nat} {rs : va_W} {k n pc : Nat} {L : List (Nat × Value)} {rest : List Value} (g : gx_G D t (gx_E0 aa) l R cc RX9 nL J) {σ : OS} {x0 : Nat} {q : OS} (hR : 4 + 1 ≤ R.frames ∧ 8 + (3 + 11) + 85 ≤ R.locals) (hkn : k ≤ R.cells ∧ n ≤ R.slots) (hcat : (rest.map fun v => v.category).sum ≤ 8) (hf : fX9_says σ x0 = some q) (hd : decode cc pc = .ok (.invokevirtual 194, 3)) (kk : J k n (mC ad t q ++ rs) (pc + 3) L (rest)) : J k n (mC ad t σ ++ rs) pc L (.ref (aa.1 x0) :: .ref (ad 0) :: rest) := j_callVv (na := 1) (As := [.ref (aa.1 x0)]) (q0 := 0) (ci := 10) g (cX9_says_  hf) q_i_X9_says q_s_X9_says rfl rfl rfl q_c_X9_says q_l_X9_194 q_n_X9 (by decide +kernel) rfl hR hkn hcat (.refl _) (.refl _) hd kk rfl
set_option maxRecDepth 100000 in
set_option maxHeartbeats 4000000 in
theorem tX9_number_69 {D : va_G} {t : Nat → ClassId} {aa : gx_AA} {l : Launch} {J : gx_J} {ad : Nat → Nat} {rs : va_W} {q : OS} (g : gx_G D t (gx_E0 aa) l ({ frames := 5, cells := 0, slots := 0, locals := 107 }) cX9_number RX9 5 J) (hE : ∀ (σ : OS) (pc : Nat) (L : List (Nat × Value)), some σ = some q → decode cX9_number pc = .ok (.return_, 1) → J 0 0 (mC ad t σ ++ rs) pc L [])  : ∀ (σ : OS) (v1 : Int32) (v3 : Int32) (v4 : Int32), fX9_number_69 σ v1 v3 v4 = some q → J 0 0 (mC ad t σ ++ rs) 69 [(0, .ref (ad 0)), (1, .int v1), (3, .int v3), (4, .int v4)] [] := by
  intro σ v1 v3 v4 hf
  unfold fX9_number_69 at hf
  refine j_aload_n (pc := 69) g 0 dX9_number_69 rfl ?_
  refine j_aload_n (pc := 70) g 0 dX9_number_70 rfl ?_
  refine m9g_18 (pc := 71) g dX9_number_71 ?_
  refine j_if_ne (tgt := 82) (pc := 74) g dX9_number_74 (by decide) (fun c_74 => ?_) (fun c_74 => ?_)
  · have hf := gx_if c_74 hf
    refine j_iconst (v := 1) (pc := 82) g dX9_number_82 (by decide) ?_
    refine j_goto (tgt := 87) (pc := 83) g dX9_number_83 (by decide) ?_
    obtain ⟨h_87, hf⟩ := gx_ck hf
    refine m9p_18 (pc := 87) g h_87 dX9_number_87 ?_
    refine j_aload_n (pc := 90) g 0 dX9_number_90 rfl ?_
    refine m9g_8 (pc := 91) g dX9_number_91 ?_
    refine j_iconst (v := 4) (pc := 94) g dX9_number_94 (by decide) ?_
    refine j_aload_n (pc := 95) g 0 dX9_number_95 rfl ?_
    refine m9g_17 (pc := 96) g dX9_number_96 ?_
    refine j_imul (pc := 99) g dX9_number_99 ?_
    refine j_iload_n (pc := 100) g 1 dX9_number_100 rfl ?_
    refine j_iadd (pc := 101) g dX9_number_101 ?_
    refine j_iload_n (pc := 102) g 2 dX9_number_102 rfl ?_
    obtain ⟨h_103, hf⟩ := gx_ck hf
    refine m9s_8 (pc := 103) g h_103 dX9_number_103 ?_
    exact hE _ _ _ hf dX9_number_104
  · have hf := gx_it c_74 hf
    refine j_iload (pc := 77) g 3 dX9_number_77 rfl ?_
    refine j_if_ne (tgt := 86) (pc := 79) g dX9_number_79 (by decide) (fun c_79 => ?_) (fun c_79 => ?_)
    · have hf := gx_if c_79 hf
      refine j_iconst (v := 0) (pc := 86) g dX9_number_86 (by decide) ?_
      obtain ⟨h_87, hf⟩ := gx_ck hf
      refine m9p_18 (pc := 87) g h_87 dX9_number_87 ?_
      refine j_aload_n (pc := 90) g 0 dX9_number_90 rfl ?_
      refine m9g_8 (pc := 91) g dX9_number_91 ?_
      refine j_iconst (v := 4) (pc := 94) g dX9_number_94 (by decide) ?_
      refine j_aload_n (pc := 95) g 0 dX9_number_95 rfl ?_
      refine m9g_17 (pc := 96) g dX9_number_96 ?_
      refine j_imul (pc := 99) g dX9_number_99 ?_
      refine j_iload_n (pc := 100) g 1 dX9_number_100 rfl ?_
      refine j_iadd (pc := 101) g dX9_number_101 ?_
      refine j_iload_n (pc := 102) g 2 dX9_number_102 rfl ?_
      obtain ⟨h_103, hf⟩ := gx_ck hf
      refine m9s_8 (pc := 103) g h_103 dX9_number_103 ?_
      exact hE _ _ _ hf dX9_number_104
    · have hf := gx_it c_79 hf
      refine j_iconst (v := 1) (pc := 82) g dX9_number_82 (by decide) ?_
      refine j_goto (tgt := 87) (pc := 83) g dX9_number_83 (by decide) ?_
      obtain ⟨h_87, hf⟩ := gx_ck hf
      refine m9p_18 (pc := 87) g h_87 dX9_number_87 ?_
      refine j_aload_n (pc := 90) g 0 dX9_number_90 rfl ?_
      refine m9g_8 (pc := 91) g dX9_number_91 ?_
      refine j_iconst (v := 4) (pc := 94) g dX9_number_94 (by decide) ?_
      refine j_aload_n (pc := 95) g 0 dX9_number_95 rfl ?_
      refine m9g_17 (pc := 96) g dX9_number_96 ?_
      refine j_imul (pc := 99) g dX9_number_99 ?_
      refine j_iload_n (pc := 100) g 1 dX9_number_100 rfl ?_
      refine j_iadd (pc := 101) g dX9_number_101 ?_
      refine j_iload_n (pc := 102) g 2 dX9_number_102 rfl ?_
      obtain ⟨h_103, hf⟩ := gx_ck hf
      refine m9s_8 (pc := 103) g h_103 dX9_number_103 ?_
      exact hE _ _ _ hf dX9_number_104
set_option maxRecDepth 100000 in
set_option maxHeartbeats 4000000 in
theorem tX9_number_11 {D : va_G} {t : Nat → ClassId} {aa : gx_AA} {l : Launch} {J : gx_J} {ad : Nat → Nat} {rs : va_W} {q : OS} (g : gx_G D t (gx_E0 aa) l ({ frames := 5, cells := 0, slots := 0, locals := 107 }) cX9_number RX9 5 J) (hE : ∀ (σ : OS) (pc : Nat) (L : List (Nat × Value)), some σ = some q → decode cX9_number pc = .ok (.return_, 1) → J 0 0 (mC ad t σ ++ rs) pc L [])  : ∀ (n : Nat) (σ : OS) (v1 : Int32) (v2 : Int32) (v3 : Int32) (v4 : Int32), fX9_number_11 n σ v1 v2 v3 v4 = some q → J 0 0 (mC ad t σ ++ rs) 11 [(0, .ref (ad 0)), (1, .int v1), (2, .int v2), (3, .int v3), (4, .int v4)] [] := by
  intro n
  induction n with
  | zero => intro σ v1 v2 v3 v4 hf; cases hf
  | succ n ih =>
    intro σ v1 v2 v3 v4 hf
    replace hf := (fX9_number_11_s n σ v1 v2 v3 v4).symm.trans hf
    refine j_aload_n (pc := 11) g 0 dX9_number_11 rfl ?_
    refine m9g_18 (pc := 12) g dX9_number_12 ?_
    refine j_if_ne (tgt := 69) (pc := 15) g dX9_number_15 (by decide) (fun c_15 => ?_) (fun c_15 => ?_)
    · have hf := gx_if c_15 hf
      refine j_sub (pc := 69) g [0, 1, 3, 4] rfl ?_
      exact tX9_number_69 g hE σ v1 v3 v4 hf
    · have hf := gx_it c_15 hf
      refine j_iload (pc := 18) g 4 dX9_number_18 rfl ?_
      refine j_iload_n (pc := 20) g 2 dX9_number_20 rfl ?_
      refine j_icmp_ge (tgt := 69) (pc := 21) g dX9_number_21 (by decide) (fun c_21 => ?_) (fun c_21 => ?_)
      · have hf := gx_it c_21 hf
        refine j_sub (pc := 69) g [0, 1, 3, 4] rfl ?_
        exact tX9_number_69 g hE σ v1 v3 v4 hf
      · have hf := gx_if c_21 hf
        refine j_aload_n (pc := 24) g 0 dX9_number_24 rfl ?_
        refine j_iconst (v := 0) (pc := 25) g dX9_number_25 (by decide) ?_
        obtain ⟨r26, h_26, hf⟩ := gx_bs hf
        refine m9c_X9_here (pc := 26) g ⟨Nat.le_of_ble_eq_true rfl, Nat.le_of_ble_eq_true rfl⟩ ⟨Nat.zero_le _, Nat.zero_le _⟩ (Nat.le_of_ble_eq_true rfl) h_26 dX9_number_26 ?_
        refine j_bipush (v := 48) (pc := 29) g dX9_number_29 (by decide) ?_
        refine j_bipush (v := 57) (pc := 31) g dX9_number_31 (by decide) ?_
        obtain ⟨r33, h_33, hf⟩ := gx_bs hf
        refine m9c_X9_in (pc := 33) g ⟨Nat.le_of_ble_eq_true rfl, Nat.le_of_ble_eq_true rfl⟩ ⟨Nat.zero_le _, Nat.zero_le _⟩ (Nat.le_of_ble_eq_true rfl) h_33 dX9_number_33 ?_
        refine j_if_eq (tgt := 69) (pc := 36) g dX9_number_36 (by decide) (fun c_36 => ?_) (fun c_36 => ?_)
        · have hf := gx_it c_36 hf
          refine j_sub (pc := 69) g [0, 1, 3, 4] rfl ?_
          exact tX9_number_69 g hE σ v1 v3 v4 hf
        · have hf := gx_if c_36 hf
          refine j_bipush (v := 10) (pc := 39) g dX9_number_39 (by decide) ?_
          refine j_iload_n (pc := 41) g 3 dX9_number_41 rfl ?_
          refine j_imul (pc := 42) g dX9_number_42 ?_
          refine j_aload_n (pc := 43) g 0 dX9_number_43 rfl ?_
          refine j_iconst (v := 0) (pc := 44) g dX9_number_44 (by decide) ?_
          obtain ⟨r45, h_45, hf⟩ := gx_bs hf
          refine m9c_X9_here (pc := 45) g ⟨Nat.le_of_ble_eq_true rfl, Nat.le_of_ble_eq_true rfl⟩ ⟨Nat.zero_le _, Nat.zero_le _⟩ (Nat.le_of_ble_eq_true rfl) h_45 dX9_number_45 ?_
          refine j_iadd (pc := 48) g dX9_number_48 ?_
          refine j_bipush (v := 48) (pc := 49) g dX9_number_49 (by decide) ?_
          refine j_isub (pc := 51) g dX9_number_51 ?_
          refine j_istore_n (L' := [(3, .int ((((10 : Int32) * v3) + r45) - (48 : Int32))), (0, .ref (ad 0)), (1, .int v1), (2, .int v2), (4, .int v4)]) (pc := 52) g dX9_number_52 rfl (Nat.le_of_ble_eq_true rfl) rfl ?_
          refine j_aload_n (pc := 53) g 1 dX9_number_53 rfl ?_
          refine j_dup (pc := 54) g dX9_number_54 rfl ?_
          refine m9g_15 (pc := 55) g dX9_number_55 ?_
          refine j_iconst (v := 1) (pc := 58) g dX9_number_58 (by decide) ?_
          refine j_iadd (pc := 59) g dX9_number_59 ?_
          refine m9p_15 (pc := 60) g dX9_number_60 ?_
          refine j_iinc (v := v4 + 1) (L' := [(4, .int (v4 + 1)), (3, .int ((((10 : Int32) * v3) + r45) - (48 : Int32))), (0, .ref (ad 0)), (1, .int v1), (2, .int v2)]) (pc := 63) g 4 dX9_number_63 rfl rfl (Nat.le_of_ble_eq_true rfl) rfl ?_
          refine j_goto (tgt := 11) (pc := 66) g dX9_number_66 (by decide) ?_
          refine j_sub (pc := 11) g [2, 3, 4, 1, 0] rfl ?_
          exact ih (os_sf σ 15 ((os_f σ 15) + (1 : Int32))) v1 v2 ((((10 : Int32) * v3) + r45) - (48 : Int32)) (v4 + 1) hf
set_option maxRecDepth 100000 in
set_option maxHeartbeats 4000000 in
theorem cX9_number_ {D : va_G} {t : Nat → ClassId} {aa : gx_AA} {l : Launch} {ad : Nat → Nat} {rs : va_W} {σ : OS} {p1 : Int32} {p2 : Int32} {q : OS} (hf : fX9_number σ p1 p2 = some q) : gx_C D t (gx_E0 aa) l yX9_number cX9_number 5 none 5 107 [.ref (ad 0), .int p1, .int p2] (mC ad t σ ++ rs) (mC ad t q ++ rs) none := by
  refine gx_intro_v (by decide) (Nat.le_of_ble_eq_true rfl) (fun J g hE0 => ?_)
  have hE : ∀ (σ : OS) (pc : Nat) (L : List (Nat × Value)), some σ = some q → decode cX9_number pc = .ok (.return_, 1) → J 0 0 (mC ad t σ ++ rs) pc L [] := fun σ pc L h h1 => by cases h; exact hE0 pc L h1
  unfold fX9_number at hf
  show J 0 0 (mC ad t σ ++ rs) 0 [(0, .ref (ad 0)), (1, .int p1), (2, .int p2)] []
  refine j_aload_n (pc := 0) g 0 dX9_number_0 rfl ?_
  refine j_ldcS (pc := 1) g (e_mstr0) dX9_number_1 ?_
  obtain ⟨r3, h_3, hf⟩ := gx_bs hf
  refine m9c_X9_says (pc := 3) g ⟨Nat.le_of_ble_eq_true rfl, Nat.le_of_ble_eq_true rfl⟩ ⟨Nat.zero_le _, Nat.zero_le _⟩ (Nat.le_of_ble_eq_true rfl) h_3 dX9_number_3 ?_
  refine j_iconst (v := 0) (pc := 6) g dX9_number_6 (by decide) ?_
  refine j_istore_n (L' := [(3, .int (0 : Int32)), (0, .ref (ad 0)), (1, .int p1), (2, .int p2)]) (pc := 7) g dX9_number_7 rfl (Nat.le_of_ble_eq_true rfl) rfl ?_
  refine j_iconst (v := 0) (pc := 8) g dX9_number_8 (by decide) ?_
  refine j_istore (L' := [(4, .int (0 : Int32)), (3, .int (0 : Int32)), (0, .ref (ad 0)), (1, .int p1), (2, .int p2)]) (pc := 9) g dX9_number_9 (Nat.le_of_ble_eq_true rfl) rfl ?_
  refine j_sub (pc := 11) g [2, 3, 4, 1, 0] rfl ?_
  exact tX9_number_11 g hE 2000 r3 p1 p2 (0 : Int32) (0 : Int32) hf
theorem m9c_X9_letter {D : va_G} {t : Nat → ClassId} {aa : gx_AA} {l : Launch} {R : Room} {cc : ByteArray} {nL : Nat} {J : gx_J} {ad : Nat → Nat} {rs : va_W} {k n pc : Nat} {L : List (Nat × Value)} {rest : List Value} (g : gx_G D t (gx_E0 aa) l R cc RX9 nL J) {σ : OS} {x0 : Int32} {q : OS} (hR : 1 + 1 ≤ R.frames ∧ 8 + (2 + 11) + 22 ≤ R.locals) (hkn : k ≤ R.cells ∧ n ≤ R.slots) (hcat : (rest.map fun v => v.category).sum ≤ 8) (hf : fX9_letter σ x0 = some q) (hd : decode cc pc = .ok (.invokevirtual 203, 3)) (kk : J k n (mC ad t q ++ rs) (pc + 3) L (rest)) : J k n (mC ad t σ ++ rs) pc L (.int x0 :: .ref (ad 0) :: rest) := j_callVv (na := 1) (As := [.int x0]) (q0 := 0) (ci := 10) g (cX9_letter_  hf) q_i_X9_letter q_s_X9_letter rfl rfl rfl q_c_X9_letter q_l_X9_203 q_n_X9 (by decide +kernel) rfl hR hkn hcat (.refl _) (.refl _) hd kk rfl
theorem m9c_X9_number {D : va_G} {t : Nat → ClassId} {aa : gx_AA} {l : Launch} {R : Room} {cc : ByteArray} {nL : Nat} {J : gx_J} {ad : Nat → Nat} {rs : va_W} {k n pc : Nat} {L : List (Nat × Value)} {rest : List Value} (g : gx_G D t (gx_E0 aa) l R cc RX9 nL J) {σ : OS} {x0 : Int32} {x1 : Int32} {q : OS} (hR : 5 + 1 ≤ R.frames ∧ 8 + (5 + 11) + 107 ≤ R.locals) (hkn : k ≤ R.cells ∧ n ≤ R.slots) (hcat : (rest.map fun v => v.category).sum ≤ 8) (hf : fX9_number σ x0 x1 = some q) (hd : decode cc pc = .ok (.invokevirtual 206, 3)) (kk : J k n (mC ad t q ++ rs) (pc + 3) L (rest)) : J k n (mC ad t σ ++ rs) pc L (.int x1 :: .int x0 :: .ref (ad 0) :: rest) := j_callVv (na := 2) (As := [.int x0, .int x1]) (q0 := 0) (ci := 10) g (cX9_number_  hf) q_i_X9_number q_s_X9_number rfl rfl rfl q_c_X9_number q_l_X9_206 q_n_X9 (by decide +kernel) rfl hR hkn hcat (.refl _) (.refl _) hd kk rfl
set_option maxRecDepth 100000 in
set_option maxHeartbeats 4000000 in
theorem cX9_readsFlag_ {D : va_G} {t : Nat → ClassId} {aa : gx_AA} {l : Launch} {ad : Nat → Nat} {rs : va_W} {σ : OS} {q : OS} (hf : fX9_readsFlag σ = some q) : gx_C D t (gx_E0 aa) l yX9_readsFlag cX9_readsFlag 1 none 6 131 [.ref (ad 0)] (mC ad t σ ++ rs) (mC ad t q ++ rs) none := by
  refine gx_intro_v (by decide) (Nat.le_of_ble_eq_true rfl) (fun J g hE0 => ?_)
  have hE : ∀ (σ : OS) (pc : Nat) (L : List (Nat × Value)), some σ = some q → decode cX9_readsFlag pc = .ok (.return_, 1) → J 0 0 (mC ad t σ ++ rs) pc L [] := fun σ pc L h h1 => by cases h; exact hE0 pc L h1
  unfold fX9_readsFlag at hf
  show J 0 0 (mC ad t σ ++ rs) 0 [(0, .ref (ad 0))] []
  refine j_aload_n (pc := 0) g 0 dX9_readsFlag_0 rfl ?_
  refine j_ldcS (pc := 1) g (e_mstr1) dX9_readsFlag_1 ?_
  obtain ⟨r3, h_3, hf⟩ := gx_bs hf
  refine m9c_X9_says (pc := 3) g ⟨Nat.le_of_ble_eq_true rfl, Nat.le_of_ble_eq_true rfl⟩ ⟨Nat.zero_le _, Nat.zero_le _⟩ (Nat.le_of_ble_eq_true rfl) h_3 dX9_readsFlag_3 ?_
  refine j_aload_n (pc := 6) g 0 dX9_readsFlag_6 rfl ?_
  refine j_iconst (v := 1) (pc := 7) g dX9_readsFlag_7 (by decide) ?_
  obtain ⟨r8, h_8, hf⟩ := gx_bs hf
  refine m9c_X9_letter (pc := 8) g ⟨Nat.le_of_ble_eq_true rfl, Nat.le_of_ble_eq_true rfl⟩ ⟨Nat.zero_le _, Nat.zero_le _⟩ (Nat.le_of_ble_eq_true rfl) h_8 dX9_readsFlag_8 ?_
  refine j_aload_n (pc := 11) g 0 dX9_readsFlag_11 rfl ?_
  refine j_iconst (v := 2) (pc := 12) g dX9_readsFlag_12 (by decide) ?_
  obtain ⟨r13, h_13, hf⟩ := gx_bs hf
  refine m9c_X9_letter (pc := 13) g ⟨Nat.le_of_ble_eq_true rfl, Nat.le_of_ble_eq_true rfl⟩ ⟨Nat.zero_le _, Nat.zero_le _⟩ (Nat.le_of_ble_eq_true rfl) h_13 dX9_readsFlag_13 ?_
  refine j_aload_n (pc := 16) g 0 dX9_readsFlag_16 rfl ?_
  refine j_iconst (v := 3) (pc := 17) g dX9_readsFlag_17 (by decide) ?_
  refine j_iconst (v := 2) (pc := 18) g dX9_readsFlag_18 (by decide) ?_
  obtain ⟨r19, h_19, hf⟩ := gx_bs hf
  refine m9c_X9_number (pc := 19) g ⟨Nat.le_of_ble_eq_true rfl, Nat.le_of_ble_eq_true rfl⟩ ⟨Nat.zero_le _, Nat.zero_le _⟩ (Nat.le_of_ble_eq_true rfl) h_19 dX9_readsFlag_19 ?_
  exact hE _ _ _ hf dX9_readsFlag_22

set_option maxRecDepth 100000 in
set_option maxHeartbeats 4000000 in
theorem tX9_numbers_21 {D : va_G} {t : Nat → ClassId} {aa : gx_AA} {l : Launch} {J : gx_J} {ad : Nat → Nat} {rs : va_W} {q : OS} (g : gx_G D t (gx_E0 aa) l ({ frames := 6, cells := 0, slots := 0, locals := 131 }) cX9_numbers RX9 5 J) (hE : ∀ (σ : OS) (pc : Nat) (L : List (Nat × Value)), some σ = some q → decode cX9_numbers pc = .ok (.return_, 1) → J 0 0 (mC ad t σ ++ rs) pc L [])  : ∀ (σ : OS) (v4 : Int32), fX9_numbers_21 σ v4 = some q → J 0 0 (mC ad t σ ++ rs) 21 [(0, .ref (ad 0)), (4, .int v4)] [] := by
  intro σ v4 hf
  unfold fX9_numbers_21 at hf
  refine j_iload (pc := 21) g 1 dX9_numbers_21 rfl ?_
  refine j_if_le (tgt := 33) (pc := 23) g dX9_numbers_23 (by decide) (fun c_23 => ?_) (fun c_23 => ?_)
  · have hf := gx_it c_23 hf
    exact hE _ _ _ hf dX9_numbers_33
  · have hf := gx_if c_23 hf
    refine j_aload_n (pc := 26) g 0 dX9_numbers_26 rfl ?_
    refine j_iconst (v := 3) (pc := 27) g dX9_numbers_27 (by decide) ?_
    refine j_iload (pc := 28) g 1 dX9_numbers_28 rfl ?_
    obtain ⟨r30, h_30, hf⟩ := gx_bs hf
    refine m9c_X9_number (pc := 30) g ⟨Nat.le_of_ble_eq_true rfl, Nat.le_of_ble_eq_true rfl⟩ ⟨Nat.zero_le _, Nat.zero_le _⟩ (Nat.le_of_ble_eq_true rfl) h_30 dX9_numbers_30 ?_
    exact hE _ _ _ hf dX9_numbers_33
set_option maxRecDepth 100000 in
set_option maxHeartbeats 4000000 in
theorem cX9_numbers_ {D : va_G} {t : Nat → ClassId} {aa : gx_AA} {l : Launch} {ad : Nat → Nat} {rs : va_W} {σ : OS} {p1 : Nat} {p2 : Int32} {p3 : Int32} {p4 : Int32} {q : OS} (hf : fX9_numbers σ p1 p2 p3 p4 = some q) : gx_C D t (gx_E0 aa) l yX9_numbers cX9_numbers 5 none 6 131 [.ref (ad 0), .ref (aa.1 p1), .int p2, .int p3, .int p4] (mC ad t σ ++ rs) (mC ad t q ++ rs) none := by
  refine gx_intro_v (by decide) (Nat.le_of_ble_eq_true rfl) (fun J g hE0 => ?_)
  have hE : ∀ (σ : OS) (pc : Nat) (L : List (Nat × Value)), some σ = some q → decode cX9_numbers pc = .ok (.return_, 1) → J 0 0 (mC ad t σ ++ rs) pc L [] := fun σ pc L h h1 => by cases h; exact hE0 pc L h1
  unfold fX9_numbers at hf
  show J 0 0 (mC ad t σ ++ rs) 0 [(0, .ref (ad 0)), (1, .ref (aa.1 p1)), (2, .int p2), (3, .int p3), (4, .int p4)] []
  refine j_aload_n (pc := 0) g 0 dX9_numbers_0 rfl ?_
  refine j_aload_n (pc := 1) g 1 dX9_numbers_1 rfl ?_
  obtain ⟨r2, h_2, hf⟩ := gx_bs hf
  refine m9c_X9_says (pc := 2) g ⟨Nat.le_of_ble_eq_true rfl, Nat.le_of_ble_eq_true rfl⟩ ⟨Nat.zero_le _, Nat.zero_le _⟩ (Nat.le_of_ble_eq_true rfl) h_2 dX9_numbers_2 ?_
  refine j_aload_n (pc := 5) g 0 dX9_numbers_5 rfl ?_
  refine j_iconst (v := 1) (pc := 6) g dX9_numbers_6 (by decide) ?_
  refine j_iload_n (pc := 7) g 2 dX9_numbers_7 rfl ?_
  obtain ⟨r8, h_8, hf⟩ := gx_bs hf
  refine m9c_X9_number (pc := 8) g ⟨Nat.le_of_ble_eq_true rfl, Nat.le_of_ble_eq_true rfl⟩ ⟨Nat.zero_le _, Nat.zero_le _⟩ (Nat.le_of_ble_eq_true rfl) h_8 dX9_numbers_8 ?_
  refine j_iload_n (pc := 11) g 3 dX9_numbers_11 rfl ?_
  refine j_if_le (tgt := 21) (pc := 12) g dX9_numbers_12 (by decide) (fun c_12 => ?_) (fun c_12 => ?_)
  · have hf := gx_it c_12 hf
    refine j_sub (pc := 21) g [0, 4] rfl ?_
    exact tX9_numbers_21 g hE r8 p4 hf
  · have hf := gx_if c_12 hf
    refine j_aload_n (pc := 15) g 0 dX9_numbers_15 rfl ?_
    refine j_iconst (v := 2) (pc := 16) g dX9_numbers_16 (by decide) ?_
    refine j_iload_n (pc := 17) g 3 dX9_numbers_17 rfl ?_
    obtain ⟨r18, h_18, hf⟩ := gx_bs hf
    refine m9c_X9_number (pc := 18) g ⟨Nat.le_of_ble_eq_true rfl, Nat.le_of_ble_eq_true rfl⟩ ⟨Nat.zero_le _, Nat.zero_le _⟩ (Nat.le_of_ble_eq_true rfl) h_18 dX9_numbers_18 ?_
    refine j_sub (pc := 21) g [0, 4] rfl ?_
    exact tX9_numbers_21 g hE r18 p4 hf

set_option maxRecDepth 100000 in
set_option maxHeartbeats 4000000 in
theorem cX9_readsWait_ {D : va_G} {t : Nat → ClassId} {aa : gx_AA} {l : Launch} {ad : Nat → Nat} {rs : va_W} {σ : OS} {q : OS} (hf : fX9_readsWait σ = some q) : gx_C D t (gx_E0 aa) l yX9_readsWait cX9_readsWait 1 none 6 131 [.ref (ad 0)] (mC ad t σ ++ rs) (mC ad t q ++ rs) none := by
  refine gx_intro_v (by decide) (Nat.le_of_ble_eq_true rfl) (fun J g hE0 => ?_)
  have hE : ∀ (σ : OS) (pc : Nat) (L : List (Nat × Value)), some σ = some q → decode cX9_readsWait pc = .ok (.return_, 1) → J 0 0 (mC ad t σ ++ rs) pc L [] := fun σ pc L h h1 => by cases h; exact hE0 pc L h1
  unfold fX9_readsWait at hf
  show J 0 0 (mC ad t σ ++ rs) 0 [(0, .ref (ad 0))] []
  refine j_aload_n (pc := 0) g 0 dX9_readsWait_0 rfl ?_
  refine j_ldcS (pc := 1) g (e_mstr6) dX9_readsWait_1 ?_
  obtain ⟨r3, h_3, hf⟩ := gx_bs hf
  refine m9c_X9_says (pc := 3) g ⟨Nat.le_of_ble_eq_true rfl, Nat.le_of_ble_eq_true rfl⟩ ⟨Nat.zero_le _, Nat.zero_le _⟩ (Nat.le_of_ble_eq_true rfl) h_3 dX9_readsWait_3 ?_
  refine j_aload_n (pc := 6) g 0 dX9_readsWait_6 rfl ?_
  refine m9g_8 (pc := 7) g dX9_readsWait_7 ?_
  refine j_iconst (v := 4) (pc := 10) g dX9_readsWait_10 (by decide) ?_
  refine j_aload_n (pc := 11) g 0 dX9_readsWait_11 rfl ?_
  refine m9g_17 (pc := 12) g dX9_readsWait_12 ?_
  refine j_imul (pc := 15) g dX9_readsWait_15 ?_
  refine j_iconst (v := 1) (pc := 16) g dX9_readsWait_16 (by decide) ?_
  refine j_iadd (pc := 17) g dX9_readsWait_17 ?_
  refine j_iconst (v := 1) (pc := 18) g dX9_readsWait_18 (by decide) ?_
  obtain ⟨h_19, hf⟩ := gx_ck hf
  refine m9s_8 (pc := 19) g h_19 dX9_readsWait_19 ?_
  refine j_aload_n (pc := 20) g 0 dX9_readsWait_20 rfl ?_
  refine m9g_18 (pc := 21) g dX9_readsWait_21 ?_
  refine j_if_ne (tgt := 43) (pc := 24) g dX9_readsWait_24 (by decide) (fun c_24 => ?_) (fun c_24 => ?_)
  · have hf := gx_if c_24 hf
    exact hE _ _ _ hf dX9_readsWait_43
  · have hf := gx_it c_24 hf
    refine j_aload_n (pc := 27) g 0 dX9_readsWait_27 rfl ?_
    refine j_iconst (v := 0) (pc := 28) g dX9_readsWait_28 (by decide) ?_
    obtain ⟨r29, h_29, hf⟩ := gx_bs hf
    refine m9c_X9_here (pc := 29) g ⟨Nat.le_of_ble_eq_true rfl, Nat.le_of_ble_eq_true rfl⟩ ⟨Nat.zero_le _, Nat.zero_le _⟩ (Nat.le_of_ble_eq_true rfl) h_29 dX9_readsWait_29 ?_
    refine j_bipush (v := 32) (pc := 32) g dX9_readsWait_32 (by decide) ?_
    refine j_icmp_ne (tgt := 43) (pc := 34) g dX9_readsWait_34 (by decide) (fun c_34 => ?_) (fun c_34 => ?_)
    · have hf := gx_if c_34 hf
      exact hE _ _ _ hf dX9_readsWait_43
    · have hf := gx_it c_34 hf
      refine j_aload_n (pc := 37) g 0 dX9_readsWait_37 rfl ?_
      refine j_iconst (v := 1) (pc := 38) g dX9_readsWait_38 (by decide) ?_
      refine j_iconst (v := 2) (pc := 39) g dX9_readsWait_39 (by decide) ?_
      obtain ⟨r40, h_40, hf⟩ := gx_bs hf
      refine m9c_X9_number (pc := 40) g ⟨Nat.le_of_ble_eq_true rfl, Nat.le_of_ble_eq_true rfl⟩ ⟨Nat.zero_le _, Nat.zero_le _⟩ (Nat.le_of_ble_eq_true rfl) h_40 dX9_readsWait_40 ?_
      exact hE _ _ _ hf dX9_readsWait_43
theorem m9c_X9_numbers {D : va_G} {t : Nat → ClassId} {aa : gx_AA} {l : Launch} {R : Room} {cc : ByteArray} {nL : Nat} {J : gx_J} {ad : Nat → Nat} {rs : va_W} {k n pc : Nat} {L : List (Nat × Value)} {rest : List Value} (g : gx_G D t (gx_E0 aa) l R cc RX9 nL J) {σ : OS} {x0 : Nat} {x1 : Int32} {x2 : Int32} {x3 : Int32} {q : OS} (hR : 6 + 1 ≤ R.frames ∧ 8 + (5 + 11) + 131 ≤ R.locals) (hkn : k ≤ R.cells ∧ n ≤ R.slots) (hcat : (rest.map fun v => v.category).sum ≤ 8) (hf : fX9_numbers σ x0 x1 x2 x3 = some q) (hd : decode cc pc = .ok (.invokevirtual 214, 3)) (kk : J k n (mC ad t q ++ rs) (pc + 3) L (rest)) : J k n (mC ad t σ ++ rs) pc L (.int x3 :: .int x2 :: .int x1 :: .ref (aa.1 x0) :: .ref (ad 0) :: rest) := j_callVv (na := 4) (As := [.ref (aa.1 x0), .int x1, .int x2, .int x3]) (q0 := 0) (ci := 10) g (cX9_numbers_  hf) q_i_X9_numbers q_s_X9_numbers rfl rfl rfl q_c_X9_numbers q_l_X9_214 q_n_X9 (by decide +kernel) rfl hR hkn hcat (.refl _) (.refl _) hd kk rfl
theorem m9c_X9_readsWait {D : va_G} {t : Nat → ClassId} {aa : gx_AA} {l : Launch} {R : Room} {cc : ByteArray} {nL : Nat} {J : gx_J} {ad : Nat → Nat} {rs : va_W} {k n pc : Nat} {L : List (Nat × Value)} {rest : List Value} (g : gx_G D t (gx_E0 aa) l R cc RX9 nL J) {σ : OS} {q : OS} (hR : 6 + 1 ≤ R.frames ∧ 8 + (1 + 11) + 131 ≤ R.locals) (hkn : k ≤ R.cells ∧ n ≤ R.slots) (hcat : (rest.map fun v => v.category).sum ≤ 8) (hf : fX9_readsWait σ = some q) (hd : decode cc pc = .ok (.invokevirtual 226, 3)) (kk : J k n (mC ad t q ++ rs) (pc + 3) L (rest)) : J k n (mC ad t σ ++ rs) pc L (.ref (ad 0) :: rest) := j_callVv (na := 0) (As := []) (q0 := 0) (ci := 10) g (cX9_readsWait_  hf) q_i_X9_readsWait q_s_X9_readsWait rfl rfl rfl q_c_X9_readsWait q_l_X9_226 q_n_X9 (by decide +kernel) rfl hR hkn hcat (.refl _) (.refl _) hd kk rfl
theorem m9c_X9_readsFlag {D : va_G} {t : Nat → ClassId} {aa : gx_AA} {l : Launch} {R : Room} {cc : ByteArray} {nL : Nat} {J : gx_J} {ad : Nat → Nat} {rs : va_W} {k n pc : Nat} {L : List (Nat × Value)} {rest : List Value} (g : gx_G D t (gx_E0 aa) l R cc RX9 nL J) {σ : OS} {q : OS} (hR : 6 + 1 ≤ R.frames ∧ 8 + (1 + 11) + 131 ≤ R.locals) (hkn : k ≤ R.cells ∧ n ≤ R.slots) (hcat : (rest.map fun v => v.category).sum ≤ 8) (hf : fX9_readsFlag σ = some q) (hd : decode cc pc = .ok (.invokevirtual 220, 3)) (kk : J k n (mC ad t q ++ rs) (pc + 3) L (rest)) : J k n (mC ad t σ ++ rs) pc L (.ref (ad 0) :: rest) := j_callVv (na := 0) (As := []) (q0 := 0) (ci := 10) g (cX9_readsFlag_  hf) q_i_X9_readsFlag q_s_X9_readsFlag rfl rfl rfl q_c_X9_readsFlag q_l_X9_220 q_n_X9 (by decide +kernel) rfl hR hkn hcat (.refl _) (.refl _) hd kk rfl
set_option maxRecDepth 100000 in
set_option maxHeartbeats 4000000 in
theorem tX9_readsOne_171 {D : va_G} {t : Nat → ClassId} {aa : gx_AA} {l : Launch} {J : gx_J} {ad : Nat → Nat} {rs : va_W} {q : OS} (g : gx_G D t (gx_E0 aa) l ({ frames := 7, cells := 0, slots := 0, locals := 155 }) cX9_readsOne RX9 3 J) (hE : ∀ (σ : OS) (pc : Nat) (L : List (Nat × Value)), some σ = some q → decode cX9_readsOne pc = .ok (.return_, 1) → J 0 0 (mC ad t σ ++ rs) pc L [])  : ∀ (σ : OS), fX9_readsOne_171 σ = some q → J 0 0 (mC ad t σ ++ rs) 171 [(0, .ref (ad 0))] [] := by
  intro σ hf
  unfold fX9_readsOne_171 at hf
  refine j_aload_n (pc := 171) g 0 dX9_readsOne_171 rfl ?_
  refine j_dup (pc := 172) g dX9_readsOne_172 rfl ?_
  refine m9g_17 (pc := 173) g dX9_readsOne_173 ?_
  refine j_iconst (v := 1) (pc := 176) g dX9_readsOne_176 (by decide) ?_
  refine j_iadd (pc := 177) g dX9_readsOne_177 ?_
  refine m9p_17 (pc := 178) g dX9_readsOne_178 ?_
  exact hE _ _ _ hf dX9_readsOne_181
set_option maxRecDepth 100000 in
set_option maxHeartbeats 4000000 in
theorem tX9_readsOne_26 {D : va_G} {t : Nat → ClassId} {aa : gx_AA} {l : Launch} {J : gx_J} {ad : Nat → Nat} {rs : va_W} {q : OS} (g : gx_G D t (gx_E0 aa) l ({ frames := 7, cells := 0, slots := 0, locals := 155 }) cX9_readsOne RX9 3 J) (hE : ∀ (σ : OS) (pc : Nat) (L : List (Nat × Value)), some σ = some q → decode cX9_readsOne pc = .ok (.return_, 1) → J 0 0 (mC ad t σ ++ rs) pc L [])  : ∀ (σ : OS) (v1 : Int32), fX9_readsOne_26 σ v1 = some q → J 0 0 (mC ad t σ ++ rs) 26 [(0, .ref (ad 0)), (1, .int v1)] [] := by
  intro σ v1 hf
  unfold fX9_readsOne_26 at hf
  refine j_iconst (v := 0) (pc := 26) g dX9_readsOne_26 (by decide) ?_
  refine j_istore_n (L' := [(2, .int (0 : Int32)), (0, .ref (ad 0)), (1, .int v1)]) (pc := 27) g dX9_readsOne_27 rfl (Nat.le_of_ble_eq_true rfl) rfl ?_
  refine j_aload_n (pc := 28) g 1 dX9_readsOne_28 rfl ?_
  refine m9g_8 (pc := 29) g dX9_readsOne_29 ?_
  refine j_iconst (v := 4) (pc := 32) g dX9_readsOne_32 (by decide) ?_
  refine j_aload_n (pc := 33) g 1 dX9_readsOne_33 rfl ?_
  refine m9g_17 (pc := 34) g dX9_readsOne_34 ?_
  refine j_imul (pc := 37) g dX9_readsOne_37 ?_
  refine j_iload_n (pc := 38) g 0 dX9_readsOne_38 rfl ?_
  refine j_if_eq (tgt := 47) (pc := 39) g dX9_readsOne_39 (by decide) (fun _ => ?_) (fun h => absurd h (by decide))
  refine j_iload_n (pc := 47) g 2 dX9_readsOne_47 rfl ?_
  obtain ⟨h_48, hf⟩ := gx_ck hf
  refine m9s_8 (pc := 48) g h_48 dX9_readsOne_48 ?_
  refine j_iload_n (pc := 49) g 2 dX9_readsOne_49 rfl ?_
  by_cases c_50_0 : v1 = 97
  · have hf := gx_it c_50_0 hf
    refine j_lookup (tgt := 100) (pc := 50) g dX9_readsOne_50 rfl (by rw [c_50_0] <;> rfl) (by decide) ?_
    refine j_aload_n (pc := 100) g 1 dX9_readsOne_100 rfl ?_
    refine j_ldcS (pc := 101) g (e_mstr2) dX9_readsOne_101 ?_
    refine j_iconst (v := 2) (pc := 103) g dX9_readsOne_103 (by decide) ?_
    refine j_iconst (v := 1) (pc := 104) g dX9_readsOne_104 (by decide) ?_
    refine j_iconst (v := 3) (pc := 105) g dX9_readsOne_105 (by decide) ?_
    obtain ⟨r106, h_106, hf⟩ := gx_bs hf
    refine m9c_X9_numbers (pc := 106) g ⟨Nat.le_of_ble_eq_true rfl, Nat.le_of_ble_eq_true rfl⟩ ⟨Nat.zero_le _, Nat.zero_le _⟩ (Nat.le_of_ble_eq_true rfl) h_106 dX9_readsOne_106 ?_
    refine j_goto (tgt := 171) (pc := 109) g dX9_readsOne_109 (by decide) ?_
    refine j_sub (pc := 171) g [1] rfl ?_
    exact tX9_readsOne_171 g hE r106 hf
  · have hf := gx_if c_50_0 hf
    by_cases c_50_1 : v1 = 102
    · have hf := gx_it c_50_1 hf
      refine j_lookup (tgt := 124) (pc := 50) g dX9_readsOne_50 rfl ((lv_osw c_50_0 rfl).trans (by rw [c_50_1] <;> rfl)) (by decide) ?_
      refine j_iload_n (pc := 124) g 0 dX9_readsOne_124 rfl ?_
      refine j_if_eq (tgt := 135) (pc := 125) g dX9_readsOne_125 (by decide) (fun _ => ?_) (fun h => absurd h (by decide))
      refine j_aload_n (pc := 135) g 1 dX9_readsOne_135 rfl ?_
      refine j_ldcS (pc := 136) g (e_mstr4) dX9_readsOne_136 ?_
      refine j_iconst (v := 2) (pc := 138) g dX9_readsOne_138 (by decide) ?_
      refine j_iconst (v := 0) (pc := 139) g dX9_readsOne_139 (by decide) ?_
      refine j_iconst (v := 0) (pc := 140) g dX9_readsOne_140 (by decide) ?_
      obtain ⟨r141, h_141, hf⟩ := gx_bs hf
      refine m9c_X9_numbers (pc := 141) g ⟨Nat.le_of_ble_eq_true rfl, Nat.le_of_ble_eq_true rfl⟩ ⟨Nat.zero_le _, Nat.zero_le _⟩ (Nat.le_of_ble_eq_true rfl) h_141 dX9_readsOne_141 ?_
      refine j_goto (tgt := 171) (pc := 144) g dX9_readsOne_144 (by decide) ?_
      refine j_sub (pc := 171) g [1] rfl ?_
      exact tX9_readsOne_171 g hE r141 hf
    · have hf := gx_if c_50_1 hf
      by_cases c_50_2 : v1 = 109
      · have hf := gx_it c_50_2 hf
        refine j_lookup (tgt := 112) (pc := 50) g dX9_readsOne_50 rfl ((lv_osw c_50_0 rfl).trans ((lv_osw c_50_1 rfl).trans (by rw [c_50_2] <;> rfl))) (by decide) ?_
        refine j_aload_n (pc := 112) g 1 dX9_readsOne_112 rfl ?_
        refine j_ldcS (pc := 113) g (e_mstr3) dX9_readsOne_113 ?_
        refine j_iconst (v := 2) (pc := 115) g dX9_readsOne_115 (by decide) ?_
        refine j_iconst (v := 2) (pc := 116) g dX9_readsOne_116 (by decide) ?_
        refine j_iconst (v := 0) (pc := 117) g dX9_readsOne_117 (by decide) ?_
        obtain ⟨r118, h_118, hf⟩ := gx_bs hf
        refine m9c_X9_numbers (pc := 118) g ⟨Nat.le_of_ble_eq_true rfl, Nat.le_of_ble_eq_true rfl⟩ ⟨Nat.zero_le _, Nat.zero_le _⟩ (Nat.le_of_ble_eq_true rfl) h_118 dX9_readsOne_118 ?_
        refine j_goto (tgt := 171) (pc := 121) g dX9_readsOne_121 (by decide) ?_
        refine j_sub (pc := 171) g [1] rfl ?_
        exact tX9_readsOne_171 g hE r118 hf
      · have hf := gx_if c_50_2 hf
        by_cases c_50_3 : v1 = 111
        · have hf := gx_it c_50_3 hf
          refine j_lookup (tgt := 147) (pc := 50) g dX9_readsOne_50 rfl ((lv_osw c_50_0 rfl).trans ((lv_osw c_50_1 rfl).trans ((lv_osw c_50_2 rfl).trans (by rw [c_50_3] <;> rfl)))) (by decide) ?_
          refine j_aload_n (pc := 147) g 1 dX9_readsOne_147 rfl ?_
          refine j_ldcS (pc := 148) g (e_mstr5) dX9_readsOne_148 ?_
          refine j_iconst (v := 2) (pc := 150) g dX9_readsOne_150 (by decide) ?_
          refine j_iconst (v := 2) (pc := 151) g dX9_readsOne_151 (by decide) ?_
          refine j_iconst (v := 3) (pc := 152) g dX9_readsOne_152 (by decide) ?_
          obtain ⟨r153, h_153, hf⟩ := gx_bs hf
          refine m9c_X9_numbers (pc := 153) g ⟨Nat.le_of_ble_eq_true rfl, Nat.le_of_ble_eq_true rfl⟩ ⟨Nat.zero_le _, Nat.zero_le _⟩ (Nat.le_of_ble_eq_true rfl) h_153 dX9_readsOne_153 ?_
          refine j_goto (tgt := 171) (pc := 156) g dX9_readsOne_156 (by decide) ?_
          refine j_sub (pc := 171) g [1] rfl ?_
          exact tX9_readsOne_171 g hE r153 hf
        · have hf := gx_if c_50_3 hf
          by_cases c_50_4 : v1 = 119
          · have hf := gx_it c_50_4 hf
            refine j_lookup (tgt := 159) (pc := 50) g dX9_readsOne_50 rfl ((lv_osw c_50_0 rfl).trans ((lv_osw c_50_1 rfl).trans ((lv_osw c_50_2 rfl).trans ((lv_osw c_50_3 rfl).trans (by rw [c_50_4] <;> rfl))))) (by decide) ?_
            refine j_aload_n (pc := 159) g 1 dX9_readsOne_159 rfl ?_
            obtain ⟨r160, h_160, hf⟩ := gx_bs hf
            refine m9c_X9_readsWait (pc := 160) g ⟨Nat.le_of_ble_eq_true rfl, Nat.le_of_ble_eq_true rfl⟩ ⟨Nat.zero_le _, Nat.zero_le _⟩ (Nat.le_of_ble_eq_true rfl) h_160 dX9_readsOne_160 ?_
            refine j_goto (tgt := 171) (pc := 163) g dX9_readsOne_163 (by decide) ?_
            refine j_sub (pc := 171) g [1] rfl ?_
            exact tX9_readsOne_171 g hE r160 hf
          · have hf := gx_if c_50_4 hf
            refine j_lookup (off := 116) (tgt := 166) (pc := 50) g dX9_readsOne_50 rfl ((lv_osw c_50_0 rfl).trans ((lv_osw c_50_1 rfl).trans ((lv_osw c_50_2 rfl).trans ((lv_osw c_50_3 rfl).trans ((lv_osw c_50_4 rfl).trans rfl))))) (by decide) ?_
            refine j_aload_n (pc := 166) g 1 dX9_readsOne_166 rfl ?_
            refine j_iconst (v := 1) (pc := 167) g dX9_readsOne_167 (by decide) ?_
            obtain ⟨h_168, hf⟩ := gx_ck hf
            refine m9p_18 (pc := 168) g h_168 dX9_readsOne_168 ?_
            refine j_sub (pc := 171) g [1] rfl ?_
            exact tX9_readsOne_171 g hE (os_sf (os_sa σ 8 ((4 : Int32) * (os_f σ 17)).toNatClampNeg v1) 18 (1 : Int32)) hf
set_option maxRecDepth 100000 in
set_option maxHeartbeats 4000000 in
theorem cX9_readsOne_ {D : va_G} {t : Nat → ClassId} {aa : gx_AA} {l : Launch} {ad : Nat → Nat} {rs : va_W} {σ : OS} {q : OS} (hf : fX9_readsOne σ = some q) : gx_C D t (gx_E0 aa) l yX9_readsOne cX9_readsOne 3 none 7 155 [.ref (ad 0)] (mC ad t σ ++ rs) (mC ad t q ++ rs) none := by
  refine gx_intro_v (by decide) (Nat.le_of_ble_eq_true rfl) (fun J g hE0 => ?_)
  have hE : ∀ (σ : OS) (pc : Nat) (L : List (Nat × Value)), some σ = some q → decode cX9_readsOne pc = .ok (.return_, 1) → J 0 0 (mC ad t σ ++ rs) pc L [] := fun σ pc L h h1 => by cases h; exact hE0 pc L h1
  unfold fX9_readsOne at hf
  show J 0 0 (mC ad t σ ++ rs) 0 [(0, .ref (ad 0))] []
  refine j_aload_n (pc := 0) g 0 dX9_readsOne_0 rfl ?_
  refine j_iconst (v := 0) (pc := 1) g dX9_readsOne_1 (by decide) ?_
  obtain ⟨r2, h_2, hf⟩ := gx_bs hf
  refine m9c_X9_here (pc := 2) g ⟨Nat.le_of_ble_eq_true rfl, Nat.le_of_ble_eq_true rfl⟩ ⟨Nat.zero_le _, Nat.zero_le _⟩ (Nat.le_of_ble_eq_true rfl) h_2 dX9_readsOne_2 ?_
  refine j_istore_n (L' := [(1, .int r2), (0, .ref (ad 0))]) (pc := 5) g dX9_readsOne_5 rfl (Nat.le_of_ble_eq_true rfl) rfl ?_
  refine j_iload_n (pc := 6) g 0 dX9_readsOne_6 rfl ?_
  refine j_bipush (v := 102) (pc := 7) g dX9_readsOne_7 (by decide) ?_
  refine j_icmp_ne (tgt := 26) (pc := 9) g dX9_readsOne_9 (by decide) (fun c_9 => ?_) (fun c_9 => ?_)
  · have hf := gx_if c_9 hf
    refine j_sub (pc := 26) g [1, 0] rfl ?_
    exact tX9_readsOne_26 g hE σ r2 hf
  · have hf := gx_it c_9 hf
    refine j_aload_n (pc := 12) g 1 dX9_readsOne_12 rfl ?_
    refine j_iconst (v := 1) (pc := 13) g dX9_readsOne_13 (by decide) ?_
    obtain ⟨r14, h_14, hf⟩ := gx_bs hf
    refine m9c_X9_here (pc := 14) g ⟨Nat.le_of_ble_eq_true rfl, Nat.le_of_ble_eq_true rfl⟩ ⟨Nat.zero_le _, Nat.zero_le _⟩ (Nat.le_of_ble_eq_true rfl) h_14 dX9_readsOne_14 ?_
    refine j_bipush (v := 108) (pc := 17) g dX9_readsOne_17 (by decide) ?_
    refine j_icmp_ne (tgt := 26) (pc := 19) g dX9_readsOne_19 (by decide) (fun c_19 => ?_) (fun c_19 => ?_)
    · have hf := gx_if c_19 hf
      refine j_sub (pc := 26) g [1, 0] rfl ?_
      exact tX9_readsOne_26 g hE σ r2 hf
    · have hf := gx_it c_19 hf
      refine j_iconst (v := 1) (pc := 22) g dX9_readsOne_22 (by decide) ?_
      refine j_goto (tgt := 27) (pc := 23) g dX9_readsOne_23 (by decide) ?_
      refine j_istore_n (L' := [(2, .int (1 : Int32)), (1, .int r2), (0, .ref (ad 0))]) (pc := 27) g dX9_readsOne_27 rfl (Nat.le_of_ble_eq_true rfl) rfl ?_
      refine j_aload_n (pc := 28) g 2 dX9_readsOne_28 rfl ?_
      refine m9g_8 (pc := 29) g dX9_readsOne_29 ?_
      refine j_iconst (v := 4) (pc := 32) g dX9_readsOne_32 (by decide) ?_
      refine j_aload_n (pc := 33) g 2 dX9_readsOne_33 rfl ?_
      refine m9g_17 (pc := 34) g dX9_readsOne_34 ?_
      refine j_imul (pc := 37) g dX9_readsOne_37 ?_
      refine j_iload_n (pc := 38) g 0 dX9_readsOne_38 rfl ?_
      refine j_if_eq (tgt := 47) (pc := 39) g dX9_readsOne_39 (by decide) (fun h => absurd h (by decide)) (fun _ => ?_)
      refine j_bipush (v := 108) (pc := 42) g dX9_readsOne_42 (by decide) ?_
      refine j_goto (tgt := 48) (pc := 44) g dX9_readsOne_44 (by decide) ?_
      obtain ⟨h_48, hf⟩ := gx_ck hf
      refine m9s_8 (pc := 48) g h_48 dX9_readsOne_48 ?_
      refine j_iload_n (pc := 49) g 1 dX9_readsOne_49 rfl ?_
      by_cases c_50_0 : r2 = 97
      · have hf := gx_it c_50_0 hf
        refine j_lookup (tgt := 100) (pc := 50) g dX9_readsOne_50 rfl (by rw [c_50_0] <;> rfl) (by decide) ?_
        refine j_aload_n (pc := 100) g 2 dX9_readsOne_100 rfl ?_
        refine j_ldcS (pc := 101) g (e_mstr2) dX9_readsOne_101 ?_
        refine j_iconst (v := 2) (pc := 103) g dX9_readsOne_103 (by decide) ?_
        refine j_iconst (v := 1) (pc := 104) g dX9_readsOne_104 (by decide) ?_
        refine j_iconst (v := 3) (pc := 105) g dX9_readsOne_105 (by decide) ?_
        obtain ⟨r106, h_106, hf⟩ := gx_bs hf
        refine m9c_X9_numbers (pc := 106) g ⟨Nat.le_of_ble_eq_true rfl, Nat.le_of_ble_eq_true rfl⟩ ⟨Nat.zero_le _, Nat.zero_le _⟩ (Nat.le_of_ble_eq_true rfl) h_106 dX9_readsOne_106 ?_
        refine j_goto (tgt := 171) (pc := 109) g dX9_readsOne_109 (by decide) ?_
        refine j_sub (pc := 171) g [2] rfl ?_
        exact tX9_readsOne_171 g hE r106 hf
      · have hf := gx_if c_50_0 hf
        by_cases c_50_1 : r2 = 102
        · have hf := gx_it c_50_1 hf
          refine j_lookup (tgt := 124) (pc := 50) g dX9_readsOne_50 rfl ((lv_osw c_50_0 rfl).trans (by rw [c_50_1] <;> rfl)) (by decide) ?_
          refine j_iload_n (pc := 124) g 0 dX9_readsOne_124 rfl ?_
          refine j_if_eq (tgt := 135) (pc := 125) g dX9_readsOne_125 (by decide) (fun h => absurd h (by decide)) (fun _ => ?_)
          refine j_aload_n (pc := 128) g 2 dX9_readsOne_128 rfl ?_
          obtain ⟨r129, h_129, hf⟩ := gx_bs hf
          refine m9c_X9_readsFlag (pc := 129) g ⟨Nat.le_of_ble_eq_true rfl, Nat.le_of_ble_eq_true rfl⟩ ⟨Nat.zero_le _, Nat.zero_le _⟩ (Nat.le_of_ble_eq_true rfl) h_129 dX9_readsOne_129 ?_
          refine j_goto (tgt := 171) (pc := 132) g dX9_readsOne_132 (by decide) ?_
          refine j_sub (pc := 171) g [2] rfl ?_
          exact tX9_readsOne_171 g hE r129 hf
        · have hf := gx_if c_50_1 hf
          by_cases c_50_2 : r2 = 109
          · have hf := gx_it c_50_2 hf
            refine j_lookup (tgt := 112) (pc := 50) g dX9_readsOne_50 rfl ((lv_osw c_50_0 rfl).trans ((lv_osw c_50_1 rfl).trans (by rw [c_50_2] <;> rfl))) (by decide) ?_
            refine j_aload_n (pc := 112) g 2 dX9_readsOne_112 rfl ?_
            refine j_ldcS (pc := 113) g (e_mstr3) dX9_readsOne_113 ?_
            refine j_iconst (v := 2) (pc := 115) g dX9_readsOne_115 (by decide) ?_
            refine j_iconst (v := 2) (pc := 116) g dX9_readsOne_116 (by decide) ?_
            refine j_iconst (v := 0) (pc := 117) g dX9_readsOne_117 (by decide) ?_
            obtain ⟨r118, h_118, hf⟩ := gx_bs hf
            refine m9c_X9_numbers (pc := 118) g ⟨Nat.le_of_ble_eq_true rfl, Nat.le_of_ble_eq_true rfl⟩ ⟨Nat.zero_le _, Nat.zero_le _⟩ (Nat.le_of_ble_eq_true rfl) h_118 dX9_readsOne_118 ?_
            refine j_goto (tgt := 171) (pc := 121) g dX9_readsOne_121 (by decide) ?_
            refine j_sub (pc := 171) g [2] rfl ?_
            exact tX9_readsOne_171 g hE r118 hf
          · have hf := gx_if c_50_2 hf
            by_cases c_50_3 : r2 = 111
            · have hf := gx_it c_50_3 hf
              refine j_lookup (tgt := 147) (pc := 50) g dX9_readsOne_50 rfl ((lv_osw c_50_0 rfl).trans ((lv_osw c_50_1 rfl).trans ((lv_osw c_50_2 rfl).trans (by rw [c_50_3] <;> rfl)))) (by decide) ?_
              refine j_aload_n (pc := 147) g 2 dX9_readsOne_147 rfl ?_
              refine j_ldcS (pc := 148) g (e_mstr5) dX9_readsOne_148 ?_
              refine j_iconst (v := 2) (pc := 150) g dX9_readsOne_150 (by decide) ?_
              refine j_iconst (v := 2) (pc := 151) g dX9_readsOne_151 (by decide) ?_
              refine j_iconst (v := 3) (pc := 152) g dX9_readsOne_152 (by decide) ?_
              obtain ⟨r153, h_153, hf⟩ := gx_bs hf
              refine m9c_X9_numbers (pc := 153) g ⟨Nat.le_of_ble_eq_true rfl, Nat.le_of_ble_eq_true rfl⟩ ⟨Nat.zero_le _, Nat.zero_le _⟩ (Nat.le_of_ble_eq_true rfl) h_153 dX9_readsOne_153 ?_
              refine j_goto (tgt := 171) (pc := 156) g dX9_readsOne_156 (by decide) ?_
              refine j_sub (pc := 171) g [2] rfl ?_
              exact tX9_readsOne_171 g hE r153 hf
            · have hf := gx_if c_50_3 hf
              by_cases c_50_4 : r2 = 119
              · have hf := gx_it c_50_4 hf
                refine j_lookup (tgt := 159) (pc := 50) g dX9_readsOne_50 rfl ((lv_osw c_50_0 rfl).trans ((lv_osw c_50_1 rfl).trans ((lv_osw c_50_2 rfl).trans ((lv_osw c_50_3 rfl).trans (by rw [c_50_4] <;> rfl))))) (by decide) ?_
                refine j_aload_n (pc := 159) g 2 dX9_readsOne_159 rfl ?_
                obtain ⟨r160, h_160, hf⟩ := gx_bs hf
                refine m9c_X9_readsWait (pc := 160) g ⟨Nat.le_of_ble_eq_true rfl, Nat.le_of_ble_eq_true rfl⟩ ⟨Nat.zero_le _, Nat.zero_le _⟩ (Nat.le_of_ble_eq_true rfl) h_160 dX9_readsOne_160 ?_
                refine j_goto (tgt := 171) (pc := 163) g dX9_readsOne_163 (by decide) ?_
                refine j_sub (pc := 171) g [2] rfl ?_
                exact tX9_readsOne_171 g hE r160 hf
              · have hf := gx_if c_50_4 hf
                refine j_lookup (off := 116) (tgt := 166) (pc := 50) g dX9_readsOne_50 rfl ((lv_osw c_50_0 rfl).trans ((lv_osw c_50_1 rfl).trans ((lv_osw c_50_2 rfl).trans ((lv_osw c_50_3 rfl).trans ((lv_osw c_50_4 rfl).trans rfl))))) (by decide) ?_
                refine j_aload_n (pc := 166) g 2 dX9_readsOne_166 rfl ?_
                refine j_iconst (v := 1) (pc := 167) g dX9_readsOne_167 (by decide) ?_
                obtain ⟨h_168, hf⟩ := gx_ck hf
                refine m9p_18 (pc := 168) g h_168 dX9_readsOne_168 ?_
                refine j_sub (pc := 171) g [2] rfl ?_
                exact tX9_readsOne_171 g hE (os_sf (os_sa σ 8 ((4 : Int32) * (os_f σ 17)).toNatClampNeg (108 : Int32)) 18 (1 : Int32)) hf
theorem m9c_X9_readsOne {D : va_G} {t : Nat → ClassId} {aa : gx_AA} {l : Launch} {R : Room} {cc : ByteArray} {nL : Nat} {J : gx_J} {ad : Nat → Nat} {rs : va_W} {k n pc : Nat} {L : List (Nat × Value)} {rest : List Value} (g : gx_G D t (gx_E0 aa) l R cc RX9 nL J) {σ : OS} {q : OS} (hR : 7 + 1 ≤ R.frames ∧ 8 + (3 + 11) + 155 ≤ R.locals) (hkn : k ≤ R.cells ∧ n ≤ R.slots) (hcat : (rest.map fun v => v.category).sum ≤ 8) (hf : fX9_readsOne σ = some q) (hd : decode cc pc = .ok (.invokevirtual 229, 3)) (kk : J k n (mC ad t q ++ rs) (pc + 3) L (rest)) : J k n (mC ad t σ ++ rs) pc L (.ref (ad 0) :: rest) := j_callVv (na := 0) (As := []) (q0 := 0) (ci := 10) g (cX9_readsOne_  hf) q_i_X9_readsOne q_s_X9_readsOne rfl rfl rfl q_c_X9_readsOne q_l_X9_229 q_n_X9 (by decide +kernel) rfl hR hkn hcat (.refl _) (.refl _) hd kk rfl
theorem m9p_12 {D : va_G} {t : Nat → ClassId} {aa : gx_AA} {l : Launch} {R : Room} {cc : ByteArray} {nL : Nat} {J : gx_J} {ad : Nat → Nat} {rs : va_W} {k n pc : Nat} {L : List (Nat × Value)} {st : List Value} (g : gx_G D t (gx_E0 aa) l R cc RX9 nL J) {σ : OS} {v : Int32} (hd : decode cc pc = .ok (.putfield 31, 3)) (kk : J k n (mC ad t (os_sf σ 12 v) ++ rs) (pc + 3) L st) : J k n (mC ad t σ ++ rs) pc L (.int v :: .ref (ad 0) :: st) := j_put (w' := mC ad t (os_sf σ 12 v) ++ rs) g in_X9 0 rfl rfl 12 (by decide) q_f_X9_31 rfl tyX9 tyX9_ok nmX9 rfl (ty := .int) (by decide +kernel) rfl rfl (Nat.le_of_ble_eq_true rfl) rfl hd kk
theorem m9c_X9_does {D : va_G} {t : Nat → ClassId} {aa : gx_AA} {l : Launch} {R : Room} {cc : ByteArray} {nL : Nat} {J : gx_J} {ad : Nat → Nat} {rs : va_W} {k n pc : Nat} {L : List (Nat × Value)} {rest : List Value} (g : gx_G D t (gx_E0 aa) l R cc RX9 nL J) {σ : OS} {x0 : Int32} {q : (Int32 × OS)} (hR : 6 + 1 ≤ R.frames ∧ 8 + (5 + 11) + 139 ≤ R.locals) (hkn : k ≤ R.cells ∧ n ≤ R.slots) (hcat : (rest.map fun v => v.category).sum ≤ 8) (hf : fX9_does σ x0 = some q) (hd : decode cc pc = .ok (.invokevirtual 232, 3)) (kk : J k n (mC ad t q.2 ++ rs) (pc + 3) L (.int q.1 :: rest)) : J k n (mC ad t σ ++ rs) pc L (.int x0 :: .ref (ad 0) :: rest) := j_callVi (na := 1) (As := [.int x0]) (q0 := 0) (ci := 10) g (cX9_does_  hf) q_i_X9_does q_s_X9_does rfl rfl rfl q_c_X9_does q_l_X9_232 q_n_X9 (by decide +kernel) rfl hR hkn hcat (.refl _) (.refl _) hd kk rfl
theorem m9p_13 {D : va_G} {t : Nat → ClassId} {aa : gx_AA} {l : Launch} {R : Room} {cc : ByteArray} {nL : Nat} {J : gx_J} {ad : Nat → Nat} {rs : va_W} {k n pc : Nat} {L : List (Nat × Value)} {st : List Value} (g : gx_G D t (gx_E0 aa) l R cc RX9 nL J) {σ : OS} {v : Int32} (hd : decode cc pc = .ok (.putfield 35, 3)) (kk : J k n (mC ad t (os_sf σ 13 v) ++ rs) (pc + 3) L st) : J k n (mC ad t σ ++ rs) pc L (.int v :: .ref (ad 0) :: st) := j_put (w' := mC ad t (os_sf σ 13 v) ++ rs) g in_X9 0 rfl rfl 13 (by decide) q_f_X9_35 rfl tyX9 tyX9_ok nmX9 rfl (ty := .int) (by decide +kernel) rfl rfl (Nat.le_of_ble_eq_true rfl) rfl hd kk
set_option maxRecDepth 100000 in
set_option maxHeartbeats 4000000 in
theorem tX9_runCommands_88 {D : va_G} {t : Nat → ClassId} {aa : gx_AA} {l : Launch} {J : gx_J} {ad : Nat → Nat} {rs : va_W} {q : (Int32 × OS)} (g : gx_G D t (gx_E0 aa) l ({ frames := 8, cells := 0, slots := 0, locals := 177 }) cX9_runCommands RX9 3 J) (hE : ∀ (v : Int32) (σ : OS) (pc : Nat) (L : List (Nat × Value)), some (v, σ) = some q → decode cX9_runCommands pc = .ok (.ireturn, 1) → narrow .int (.int v) = .int v → J 0 0 (mC ad t σ ++ rs) pc L [.int v])  : ∀ (σ : OS), fX9_runCommands_88 σ = some q → J 0 0 (mC ad t σ ++ rs) 88 [(0, .ref (ad 0))] [] := by
  intro σ hf
  unfold fX9_runCommands_88 at hf
  refine j_aload_n (pc := 88) g 0 dX9_runCommands_88 rfl ?_
  refine j_aload_n (pc := 89) g 0 dX9_runCommands_89 rfl ?_
  refine m9g_15 (pc := 90) g dX9_runCommands_90 ?_
  refine m9p_12 (pc := 93) g dX9_runCommands_93 ?_
  refine j_aload_n (pc := 96) g 0 dX9_runCommands_96 rfl ?_
  refine j_iconst (v := 1) (pc := 97) g dX9_runCommands_97 (by decide) ?_
  obtain ⟨r98, h_98, hf⟩ := gx_bs hf
  refine m9c_X9_fails (pc := 98) g ⟨Nat.le_of_ble_eq_true rfl, Nat.le_of_ble_eq_true rfl⟩ ⟨Nat.zero_le _, Nat.zero_le _⟩ (Nat.le_of_ble_eq_true rfl) h_98 dX9_runCommands_98 ?_
  exact hE _ _ _ _ hf dX9_runCommands_101 rfl
set_option maxRecDepth 100000 in
set_option maxHeartbeats 4000000 in
theorem tX9_runCommands_125 {D : va_G} {t : Nat → ClassId} {aa : gx_AA} {l : Launch} {J : gx_J} {ad : Nat → Nat} {rs : va_W} {q : (Int32 × OS)} (g : gx_G D t (gx_E0 aa) l ({ frames := 8, cells := 0, slots := 0, locals := 177 }) cX9_runCommands RX9 3 J) (hE : ∀ (v : Int32) (σ : OS) (pc : Nat) (L : List (Nat × Value)), some (v, σ) = some q → decode cX9_runCommands pc = .ok (.ireturn, 1) → narrow .int (.int v) = .int v → J 0 0 (mC ad t σ ++ rs) pc L [.int v])  : ∀ (n : Nat) (σ : OS) (v1 : Int32) (v2 : Int32), fX9_runCommands_125 n σ v1 v2 = some q → J 0 0 (mC ad t σ ++ rs) 125 [(0, .ref (ad 0)), (1, .int v1), (2, .int v2)] [] := by
  intro n
  induction n with
  | zero => intro σ v1 v2 hf; cases hf
  | succ n ih =>
    intro σ v1 v2 hf
    replace hf := (fX9_runCommands_125_s n σ v1 v2).symm.trans hf
    refine j_iload_n (pc := 125) g 2 dX9_runCommands_125 rfl ?_
    refine j_sipush (v := 131) (pc := 126) g dX9_runCommands_126 (by decide) ?_
    refine j_icmp_ge (tgt := 150) (pc := 129) g dX9_runCommands_129 (by decide) (fun c_129 => ?_) (fun c_129 => ?_)
    · have hf := gx_it c_129 hf
      refine j_aload_n (pc := 150) g 0 dX9_runCommands_150 rfl ?_
      refine j_iload_n (pc := 151) g 1 dX9_runCommands_151 rfl ?_
      refine m9p_13 (pc := 152) g dX9_runCommands_152 ?_
      refine j_aload_n (pc := 155) g 0 dX9_runCommands_155 rfl ?_
      refine j_iconst (v := 2) (pc := 156) g dX9_runCommands_156 (by decide) ?_
      obtain ⟨r157, h_157, hf⟩ := gx_bs hf
      refine m9c_X9_fails (pc := 157) g ⟨Nat.le_of_ble_eq_true rfl, Nat.le_of_ble_eq_true rfl⟩ ⟨Nat.zero_le _, Nat.zero_le _⟩ (Nat.le_of_ble_eq_true rfl) h_157 dX9_runCommands_157 ?_
      exact hE _ _ _ _ hf dX9_runCommands_160 rfl
    · have hf := gx_if c_129 hf
      refine j_aload_n (pc := 132) g 0 dX9_runCommands_132 rfl ?_
      refine m9g_1 (pc := 133) g dX9_runCommands_133 ?_
      refine j_iload_n (pc := 136) g 2 dX9_runCommands_136 rfl ?_
      refine j_aload_n (pc := 137) g 0 dX9_runCommands_137 rfl ?_
      refine m9g_2 (pc := 138) g dX9_runCommands_138 ?_
      refine j_iload_n (pc := 141) g 2 dX9_runCommands_141 rfl ?_
      obtain ⟨h_142, hf⟩ := gx_ck hf
      refine m9l_2 (pc := 142) g h_142 dX9_runCommands_142 ?_
      obtain ⟨h_143, hf⟩ := gx_ck hf
      refine m9s_1 (pc := 143) g h_143 dX9_runCommands_143 ?_
      refine j_iinc (v := v2 + 1) (L' := [(2, .int (v2 + 1)), (0, .ref (ad 0)), (1, .int v1)]) (pc := 144) g 2 dX9_runCommands_144 rfl rfl (Nat.le_of_ble_eq_true rfl) rfl ?_
      refine j_goto (tgt := 125) (pc := 147) g dX9_runCommands_147 (by decide) ?_
      refine j_sub (pc := 125) g [1, 2, 0] rfl ?_
      exact ih (os_sa σ 1 v2.toNatClampNeg (os_a σ 2 v2.toNatClampNeg)) v1 (v2 + 1) hf
set_option maxRecDepth 100000 in
set_option maxHeartbeats 4000000 in
theorem tX9_runCommands_104 {D : va_G} {t : Nat → ClassId} {aa : gx_AA} {l : Launch} {J : gx_J} {ad : Nat → Nat} {rs : va_W} {q : (Int32 × OS)} (g : gx_G D t (gx_E0 aa) l ({ frames := 8, cells := 0, slots := 0, locals := 177 }) cX9_runCommands RX9 3 J) (hE : ∀ (v : Int32) (σ : OS) (pc : Nat) (L : List (Nat × Value)), some (v, σ) = some q → decode cX9_runCommands pc = .ok (.ireturn, 1) → narrow .int (.int v) = .int v → J 0 0 (mC ad t σ ++ rs) pc L [.int v])  : ∀ (n : Nat) (σ : OS) (v1 : Int32), fX9_runCommands_104 n σ v1 = some q → J 0 0 (mC ad t σ ++ rs) 104 [(0, .ref (ad 0)), (1, .int v1)] [] := by
  intro n
  induction n with
  | zero => intro σ v1 hf; cases hf
  | succ n ih =>
    intro σ v1 hf
    replace hf := (fX9_runCommands_104_s n σ v1).symm.trans hf
    refine j_iload_n (pc := 104) g 1 dX9_runCommands_104 rfl ?_
    refine j_aload_n (pc := 105) g 0 dX9_runCommands_105 rfl ?_
    refine m9g_17 (pc := 106) g dX9_runCommands_106 ?_
    refine j_icmp_ge (tgt := 167) (pc := 109) g dX9_runCommands_109 (by decide) (fun c_109 => ?_) (fun c_109 => ?_)
    · have hf := gx_it c_109 hf
      refine j_aload_n (pc := 167) g 0 dX9_runCommands_167 rfl ?_
      refine j_aload_n (pc := 168) g 0 dX9_runCommands_168 rfl ?_
      refine m9g_17 (pc := 169) g dX9_runCommands_169 ?_
      obtain ⟨r172, h_172, hf⟩ := gx_bs hf
      refine m9c_X9_changed (pc := 172) g ⟨Nat.le_of_ble_eq_true rfl, Nat.le_of_ble_eq_true rfl⟩ ⟨Nat.zero_le _, Nat.zero_le _⟩ (Nat.le_of_ble_eq_true rfl) h_172 dX9_runCommands_172 ?_
      exact hE _ _ _ _ hf dX9_runCommands_175 rfl
    · have hf := gx_if c_109 hf
      refine j_aload_n (pc := 112) g 0 dX9_runCommands_112 rfl ?_
      refine j_iload_n (pc := 113) g 1 dX9_runCommands_113 rfl ?_
      obtain ⟨r114, h_114, hf⟩ := gx_bs hf
      refine m9c_X9_does (pc := 114) g ⟨Nat.le_of_ble_eq_true rfl, Nat.le_of_ble_eq_true rfl⟩ ⟨Nat.zero_le _, Nat.zero_le _⟩ (Nat.le_of_ble_eq_true rfl) h_114 dX9_runCommands_114 ?_
      refine j_if_ne (tgt := 123) (pc := 117) g dX9_runCommands_117 (by decide) (fun c_117 => ?_) (fun c_117 => ?_)
      · have hf := gx_if c_117 hf
        refine j_iconst (v := 0) (pc := 123) g dX9_runCommands_123 (by decide) ?_
        refine j_istore_n (L' := [(2, .int (0 : Int32)), (0, .ref (ad 0)), (1, .int v1)]) (pc := 124) g dX9_runCommands_124 rfl (Nat.le_of_ble_eq_true rfl) rfl ?_
        refine j_sub (pc := 125) g [1, 2, 0] rfl ?_
        exact tX9_runCommands_125 g hE 2000 r114.2 v1 (0 : Int32) hf
      · have hf := gx_it c_117 hf
        refine j_goto (tgt := 161) (pc := 120) g dX9_runCommands_120 (by decide) ?_
        refine j_iinc (v := v1 + 1) (L' := [(1, .int (v1 + 1)), (0, .ref (ad 0))]) (pc := 161) g 1 dX9_runCommands_161 rfl rfl (Nat.le_of_ble_eq_true rfl) rfl ?_
        refine j_goto (tgt := 104) (pc := 164) g dX9_runCommands_164 (by decide) ?_
        refine j_sub (pc := 104) g [1, 0] rfl ?_
        exact ih r114.2 (v1 + 1) hf
set_option maxRecDepth 100000 in
set_option maxHeartbeats 4000000 in
theorem tX9_runCommands_70 {D : va_G} {t : Nat → ClassId} {aa : gx_AA} {l : Launch} {J : gx_J} {ad : Nat → Nat} {rs : va_W} {q : (Int32 × OS)} (g : gx_G D t (gx_E0 aa) l ({ frames := 8, cells := 0, slots := 0, locals := 177 }) cX9_runCommands RX9 3 J) (hE : ∀ (v : Int32) (σ : OS) (pc : Nat) (L : List (Nat × Value)), some (v, σ) = some q → decode cX9_runCommands pc = .ok (.ireturn, 1) → narrow .int (.int v) = .int v → J 0 0 (mC ad t σ ++ rs) pc L [.int v])  : ∀ (σ : OS), fX9_runCommands_70 σ = some q → J 0 0 (mC ad t σ ++ rs) 70 [(0, .ref (ad 0))] [] := by
  intro σ hf
  unfold fX9_runCommands_70 at hf
  refine j_aload_n (pc := 70) g 0 dX9_runCommands_70 rfl ?_
  refine m9g_18 (pc := 71) g dX9_runCommands_71 ?_
  refine j_if_ne (tgt := 88) (pc := 74) g dX9_runCommands_74 (by decide) (fun c_74 => ?_) (fun c_74 => ?_)
  · have hf := gx_if c_74 hf
    refine j_sub (pc := 88) g [0] rfl ?_
    exact tX9_runCommands_88 g hE σ hf
  · have hf := gx_it c_74 hf
    refine j_aload_n (pc := 77) g 0 dX9_runCommands_77 rfl ?_
    refine m9g_15 (pc := 78) g dX9_runCommands_78 ?_
    refine j_aload_n (pc := 81) g 0 dX9_runCommands_81 rfl ?_
    refine m9g_16 (pc := 82) g dX9_runCommands_82 ?_
    refine j_icmp_ge (tgt := 102) (pc := 85) g dX9_runCommands_85 (by decide) (fun c_85 => ?_) (fun c_85 => ?_)
    · have hf := gx_it c_85 hf
      refine j_iconst (v := 0) (pc := 102) g dX9_runCommands_102 (by decide) ?_
      refine j_istore_n (L' := [(1, .int (0 : Int32)), (0, .ref (ad 0))]) (pc := 103) g dX9_runCommands_103 rfl (Nat.le_of_ble_eq_true rfl) rfl ?_
      refine j_sub (pc := 104) g [1, 0] rfl ?_
      exact tX9_runCommands_104 g hE 2000 σ (0 : Int32) hf
    · have hf := gx_if c_85 hf
      refine j_sub (pc := 88) g [0] rfl ?_
      exact tX9_runCommands_88 g hE σ hf
set_option maxRecDepth 100000 in
set_option maxHeartbeats 4000000 in
theorem tX9_runCommands_36 {D : va_G} {t : Nat → ClassId} {aa : gx_AA} {l : Launch} {J : gx_J} {ad : Nat → Nat} {rs : va_W} {q : (Int32 × OS)} (g : gx_G D t (gx_E0 aa) l ({ frames := 8, cells := 0, slots := 0, locals := 177 }) cX9_runCommands RX9 3 J) (hE : ∀ (v : Int32) (σ : OS) (pc : Nat) (L : List (Nat × Value)), some (v, σ) = some q → decode cX9_runCommands pc = .ok (.ireturn, 1) → narrow .int (.int v) = .int v → J 0 0 (mC ad t σ ++ rs) pc L [.int v])  : ∀ (n : Nat) (σ : OS), fX9_runCommands_36 n σ = some q → J 0 0 (mC ad t σ ++ rs) 36 [(0, .ref (ad 0))] [] := by
  intro n
  induction n with
  | zero => intro σ hf; cases hf
  | succ n ih =>
    intro σ hf
    replace hf := (fX9_runCommands_36_s n σ).symm.trans hf
    refine j_aload_n (pc := 36) g 0 dX9_runCommands_36 rfl ?_
    refine m9g_18 (pc := 37) g dX9_runCommands_37 ?_
    refine j_if_ne (tgt := 70) (pc := 40) g dX9_runCommands_40 (by decide) (fun c_40 => ?_) (fun c_40 => ?_)
    · have hf := gx_if c_40 hf
      refine j_sub (pc := 70) g [0] rfl ?_
      exact tX9_runCommands_70 g hE σ hf
    · have hf := gx_it c_40 hf
      refine j_aload_n (pc := 43) g 0 dX9_runCommands_43 rfl ?_
      refine j_iconst (v := 0) (pc := 44) g dX9_runCommands_44 (by decide) ?_
      obtain ⟨r45, h_45, hf⟩ := gx_bs hf
      refine m9c_X9_here (pc := 45) g ⟨Nat.le_of_ble_eq_true rfl, Nat.le_of_ble_eq_true rfl⟩ ⟨Nat.zero_le _, Nat.zero_le _⟩ (Nat.le_of_ble_eq_true rfl) h_45 dX9_runCommands_45 ?_
      refine j_bipush (v := 59) (pc := 48) g dX9_runCommands_48 (by decide) ?_
      refine j_icmp_ne (tgt := 70) (pc := 50) g dX9_runCommands_50 (by decide) (fun c_50 => ?_) (fun c_50 => ?_)
      · have hf := gx_if c_50 hf
        refine j_sub (pc := 70) g [0] rfl ?_
        exact tX9_runCommands_70 g hE σ hf
      · have hf := gx_it c_50 hf
        refine j_aload_n (pc := 53) g 0 dX9_runCommands_53 rfl ?_
        refine j_dup (pc := 54) g dX9_runCommands_54 rfl ?_
        refine m9g_15 (pc := 55) g dX9_runCommands_55 ?_
        refine j_iconst (v := 1) (pc := 58) g dX9_runCommands_58 (by decide) ?_
        refine j_iadd (pc := 59) g dX9_runCommands_59 ?_
        refine m9p_15 (pc := 60) g dX9_runCommands_60 ?_
        refine j_aload_n (pc := 63) g 0 dX9_runCommands_63 rfl ?_
        obtain ⟨r64, h_64, hf⟩ := gx_bs hf
        refine m9c_X9_readsOne (pc := 64) g ⟨Nat.le_of_ble_eq_true rfl, Nat.le_of_ble_eq_true rfl⟩ ⟨Nat.zero_le _, Nat.zero_le _⟩ (Nat.le_of_ble_eq_true rfl) h_64 dX9_runCommands_64 ?_
        refine j_goto (tgt := 36) (pc := 67) g dX9_runCommands_67 (by decide) ?_
        refine j_sub (pc := 36) g [0] rfl ?_
        exact ih r64 hf
set_option maxRecDepth 100000 in
set_option maxHeartbeats 4000000 in
theorem cX9_runCommands_ {D : va_G} {t : Nat → ClassId} {aa : gx_AA} {l : Launch} {ad : Nat → Nat} {rs : va_W} {σ : OS} {q : (Int32 × OS)} (hf : fX9_runCommands σ = some q) : gx_C D t (gx_E0 aa) l yX9_runCommands cX9_runCommands 3 (some .int) 8 177 [.ref (ad 0)] (mC ad t σ ++ rs) (mC ad t q.2 ++ rs) (some (.int q.1)) := by
  refine gx_intro_i (by decide) (Nat.le_of_ble_eq_true rfl) (fun J g hE0 => ?_)
  have hE : ∀ (v : Int32) (σ : OS) (pc : Nat) (L : List (Nat × Value)), some (v, σ) = some q → decode cX9_runCommands pc = .ok (.ireturn, 1) → narrow .int (.int v) = .int v → J 0 0 (mC ad t σ ++ rs) pc L [.int v] := fun v σ pc L h h1 h2 => by cases h; exact hE0 pc L h1 h2
  unfold fX9_runCommands at hf
  show J 0 0 (mC ad t σ ++ rs) 0 [(0, .ref (ad 0))] []
  refine j_aload_n (pc := 0) g 0 dX9_runCommands_0 rfl ?_
  obtain ⟨r1, h_1, hf⟩ := gx_bs hf
  refine m9c_X9_remembers (pc := 1) g ⟨Nat.le_of_ble_eq_true rfl, Nat.le_of_ble_eq_true rfl⟩ ⟨Nat.zero_le _, Nat.zero_le _⟩ (Nat.le_of_ble_eq_true rfl) h_1 dX9_runCommands_1 ?_
  refine j_aload_n (pc := 4) g 0 dX9_runCommands_4 rfl ?_
  refine j_iconst (v := 0) (pc := 5) g dX9_runCommands_5 (by decide) ?_
  refine m9p_15 (pc := 6) g dX9_runCommands_6 ?_
  refine j_aload_n (pc := 9) g 0 dX9_runCommands_9 rfl ?_
  refine j_aload_n (pc := 10) g 0 dX9_runCommands_10 rfl ?_
  refine m9g_10 (pc := 11) g dX9_runCommands_11 ?_
  refine m9p_16 (pc := 14) g dX9_runCommands_14 ?_
  refine j_aload_n (pc := 17) g 0 dX9_runCommands_17 rfl ?_
  refine j_iconst (v := 0) (pc := 18) g dX9_runCommands_18 (by decide) ?_
  refine m9p_10 (pc := 19) g dX9_runCommands_19 ?_
  refine j_aload_n (pc := 22) g 0 dX9_runCommands_22 rfl ?_
  refine j_iconst (v := 0) (pc := 23) g dX9_runCommands_23 (by decide) ?_
  refine m9p_17 (pc := 24) g dX9_runCommands_24 ?_
  refine j_aload_n (pc := 27) g 0 dX9_runCommands_27 rfl ?_
  refine j_iconst (v := 0) (pc := 28) g dX9_runCommands_28 (by decide) ?_
  obtain ⟨h_29, hf⟩ := gx_ck hf
  refine m9p_18 (pc := 29) g h_29 dX9_runCommands_29 ?_
  refine j_aload_n (pc := 32) g 0 dX9_runCommands_32 rfl ?_
  obtain ⟨r33, h_33, hf⟩ := gx_bs hf
  refine m9c_X9_readsOne (pc := 33) g ⟨Nat.le_of_ble_eq_true rfl, Nat.le_of_ble_eq_true rfl⟩ ⟨Nat.zero_le _, Nat.zero_le _⟩ (Nat.le_of_ble_eq_true rfl) h_33 dX9_runCommands_33 ?_
  refine j_sub (pc := 36) g [0] rfl ?_
  exact tX9_runCommands_36 g hE 2000 r33 hf
