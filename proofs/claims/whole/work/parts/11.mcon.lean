theorem m9g_0 {D : va_G} {t : Nat → ClassId} {E : gx_E} {l : Launch} {R : Room} {cc : ByteArray} {nL : Nat} {J : gx_J} {ad : Nat → Nat} {rs : va_W} {k n pc : Nat} {L : List (Nat × Value)} {st : List Value} (g : gx_G D t E l R cc RX9 nL J) {σ : OS} (hd : decode cc pc = .ok (.getfield 42, 3)) (kk : J k n (mC ad t σ ++ rs) (pc + 3) L (.int (os_f σ 0) :: st)) : J k n (mC ad t σ ++ rs) pc L (.ref (ad 0) :: st) := j_get g in_X9 0 rfl rfl 0 (by decide) q_f_X9_42 rfl rfl hd kk
set_option maxRecDepth 100000 in
set_option maxHeartbeats 4000000 in
theorem cX9_thrown_ {D : va_G} {t : Nat → ClassId} {E : gx_E} {l : Launch} {ad : Nat → Nat} {rs : va_W} {σ : OS} {q : Int32} (hf : fX9_thrown σ = some q) : gx_C D t E l yX9_thrown cX9_thrown 1 (some .int) 0 0 [.ref (ad 0)] (mC ad t σ ++ rs) (mC ad t σ ++ rs) (some (.int q)) := by
  refine gx_intro_i (by decide) (Nat.le_of_ble_eq_true rfl) (fun J g hE0 => ?_)
  have hE : ∀ (v : Int32) (pc : Nat) (L : List (Nat × Value)), some v = some q → decode cX9_thrown pc = .ok (.ireturn, 1) → narrow .int (.int v) = .int v → J 0 0 (mC ad t σ ++ rs) pc L [.int v] := fun v pc L h h1 h2 => by cases h; exact hE0 pc L h1 h2
  unfold fX9_thrown at hf
  show J 0 0 (mC ad t σ ++ rs) 0 [(0, .ref (ad 0))] []
  refine j_aload_n (pc := 0) g 0 dX9_thrown_0 rfl ?_
  refine m9g_0 (pc := 1) g dX9_thrown_1 ?_
  exact hE _ _ _ hf dX9_thrown_4 rfl
theorem m9p_0 {D : va_G} {t : Nat → ClassId} {E : gx_E} {l : Launch} {R : Room} {cc : ByteArray} {nL : Nat} {J : gx_J} {ad : Nat → Nat} {rs : va_W} {k n pc : Nat} {L : List (Nat × Value)} {st : List Value} (g : gx_G D t E l R cc RX9 nL J) {σ : OS} {v : Int32} (hd : decode cc pc = .ok (.putfield 42, 3)) (kk : J k n (mC ad t (os_sf σ 0 v) ++ rs) (pc + 3) L st) : J k n (mC ad t σ ++ rs) pc L (.int v :: .ref (ad 0) :: st) := j_put (w' := mC ad t (os_sf σ 0 v) ++ rs) g in_X9 0 rfl rfl 0 (by decide) q_f_X9_42 rfl tyX9 tyX9_ok nmX9 rfl (ty := .int) (by decide +kernel) rfl rfl (Nat.le_of_ble_eq_true rfl) rfl hd kk
set_option maxRecDepth 100000 in
set_option maxHeartbeats 4000000 in
theorem cX9_fails_ {D : va_G} {t : Nat → ClassId} {E : gx_E} {l : Launch} {ad : Nat → Nat} {rs : va_W} {σ : OS} {p1 : Int32} {q : (Int32 × OS)} (hf : fX9_fails σ p1 = some q) : gx_C D t E l yX9_fails cX9_fails 2 (some .int) 0 0 [.ref (ad 0), .int p1] (mC ad t σ ++ rs) (mC ad t q.2 ++ rs) (some (.int q.1)) := by
  refine gx_intro_i (by decide) (Nat.le_of_ble_eq_true rfl) (fun J g hE0 => ?_)
  have hE : ∀ (v : Int32) (σ : OS) (pc : Nat) (L : List (Nat × Value)), some (v, σ) = some q → decode cX9_fails pc = .ok (.ireturn, 1) → narrow .int (.int v) = .int v → J 0 0 (mC ad t σ ++ rs) pc L [.int v] := fun v σ pc L h h1 h2 => by cases h; exact hE0 pc L h1 h2
  unfold fX9_fails at hf
  show J 0 0 (mC ad t σ ++ rs) 0 [(0, .ref (ad 0)), (1, .int p1)] []
  refine j_aload_n (pc := 0) g 0 dX9_fails_0 rfl ?_
  refine j_iload_n (pc := 1) g 1 dX9_fails_1 rfl ?_
  refine m9p_0 (pc := 2) g dX9_fails_2 ?_
  refine j_iconst (v := 0) (pc := 5) g dX9_fails_5 (by decide) ?_
  exact hE _ _ _ _ hf dX9_fails_6 rfl

set_option maxRecDepth 100000 in
set_option maxHeartbeats 4000000 in
theorem cX9_in_ {D : va_G} {t : Nat → ClassId} {E : gx_E} {l : Launch} {ad : Nat → Nat} {rs : va_W} {p0 : Int32} {p1 : Int32} {p2 : Int32} {q : Int32} (hf : fX9_in p0 p1 p2 = some q) : gx_C D t E l yX9_in cX9_in 3 (some .boolean) 0 0 [.int p0, .int p1, .int p2] (rs) (rs) (some (.int q)) := by
  refine gx_intro_i (by decide) (Nat.le_of_ble_eq_true rfl) (fun J g hE0 => ?_)
  have hE : ∀ (v : Int32) (pc : Nat) (L : List (Nat × Value)), some v = some q → decode cX9_in pc = .ok (.ireturn, 1) → narrow .boolean (.int v) = .int v → J 0 0 (rs) pc L [.int v] := fun v pc L h h1 h2 => by cases h; exact hE0 pc L h1 h2
  unfold fX9_in at hf
  show J 0 0 (rs) 0 [(0, .int p0), (1, .int p1), (2, .int p2)] []
  refine j_iload_n (pc := 0) g 0 dX9_in_0 rfl ?_
  refine j_iload_n (pc := 1) g 1 dX9_in_1 rfl ?_
  refine j_icmp_lt (tgt := 14) (pc := 2) g dX9_in_2 (by decide) (fun c_2 => ?_) (fun c_2 => ?_)
  · have hf := gx_it c_2 hf
    refine j_iconst (v := 0) (pc := 14) g dX9_in_14 (by decide) ?_
    exact hE _ _ _ hf dX9_in_15 rfl
  · have hf := gx_if c_2 hf
    refine j_iload_n (pc := 5) g 0 dX9_in_5 rfl ?_
    refine j_iload_n (pc := 6) g 2 dX9_in_6 rfl ?_
    refine j_icmp_gt (tgt := 14) (pc := 7) g dX9_in_7 (by decide) (fun c_7 => ?_) (fun c_7 => ?_)
    · have hf := gx_it c_7 hf
      refine j_iconst (v := 0) (pc := 14) g dX9_in_14 (by decide) ?_
      exact hE _ _ _ hf dX9_in_15 rfl
    · have hf := gx_if c_7 hf
      refine j_iconst (v := 1) (pc := 10) g dX9_in_10 (by decide) ?_
      refine j_goto (tgt := 15) (pc := 11) g dX9_in_11 (by decide) ?_
      exact hE _ _ _ hf dX9_in_15 rfl
theorem m9g_2 {D : va_G} {t : Nat → ClassId} {E : gx_E} {l : Launch} {R : Room} {cc : ByteArray} {nL : Nat} {J : gx_J} {ad : Nat → Nat} {rs : va_W} {k n pc : Nat} {L : List (Nat × Value)} {st : List Value} (g : gx_G D t E l R cc RX9 nL J) {σ : OS} (hd : decode cc pc = .ok (.getfield 13, 3)) (kk : J k n (mC ad t σ ++ rs) (pc + 3) L (.ref (ad 2) :: st)) : J k n (mC ad t σ ++ rs) pc L (.ref (ad 0) :: st) := j_get g in_X9 0 rfl rfl 2 (by decide) q_f_X9_13 rfl rfl hd kk
theorem m9g_1 {D : va_G} {t : Nat → ClassId} {E : gx_E} {l : Launch} {R : Room} {cc : ByteArray} {nL : Nat} {J : gx_J} {ad : Nat → Nat} {rs : va_W} {k n pc : Nat} {L : List (Nat × Value)} {st : List Value} (g : gx_G D t E l R cc RX9 nL J) {σ : OS} (hd : decode cc pc = .ok (.getfield 7, 3)) (kk : J k n (mC ad t σ ++ rs) (pc + 3) L (.ref (ad 1) :: st)) : J k n (mC ad t σ ++ rs) pc L (.ref (ad 0) :: st) := j_get g in_X9 0 rfl rfl 1 (by decide) q_f_X9_7 rfl rfl hd kk
theorem m9l_1 {D : va_G} {t : Nat → ClassId} {E : gx_E} {l : Launch} {R : Room} {cc : ByteArray} {nL : Nat} {J : gx_J} {ad : Nat → Nat} {rs : va_W} {k n pc : Nat} {L : List (Nat × Value)} {st : List Value} (g : gx_G D t E l R cc RX9 nL J) {σ : OS} {i : Int32} (hin : gx_in i 131) (hd : decode cc pc = .ok (.iaload, 1)) (kk : J k n (mC ad t σ ++ rs) (pc + 1) L (.int (os_a σ 1 i.toNatClampNeg) :: st)) : J k n (mC ad t σ ++ rs) pc L (.int i :: .ref (ad 1) :: st) := j_iald g 1 rfl hin hd kk
theorem m9s_2 {D : va_G} {t : Nat → ClassId} {E : gx_E} {l : Launch} {R : Room} {cc : ByteArray} {nL : Nat} {J : gx_J} {ad : Nat → Nat} {rs : va_W} {k n pc : Nat} {L : List (Nat × Value)} {st : List Value} (g : gx_G D t E l R cc RX9 nL J) {σ : OS} {i x : Int32} (hin : gx_in i 131) (hd : decode cc pc = .ok (.iastore, 1)) (kk : J k n (mC ad t (os_sa σ 2 i.toNatClampNeg x) ++ rs) (pc + 1) L st) : J k n (mC ad t σ ++ rs) pc L (.int x :: .int i :: .ref (ad 2) :: st) := j_iast (w' := mC ad t (os_sa σ 2 i.toNatClampNeg x) ++ rs) g 2 rfl hin rfl hd kk
set_option maxRecDepth 100000 in
set_option maxHeartbeats 4000000 in
theorem tX9_remembers_7 {D : va_G} {t : Nat → ClassId} {E : gx_E} {l : Launch} {J : gx_J} {ad : Nat → Nat} {rs : va_W} {q : OS} (g : gx_G D t E l ({ frames := 0, cells := 0, slots := 0, locals := 0 }) cX9_remembers RX9 2 J) (hE : ∀ (σ : OS) (pc : Nat) (L : List (Nat × Value)), some σ = some q → decode cX9_remembers pc = .ok (.return_, 1) → J 0 0 (mC ad t σ ++ rs) pc L [])  : ∀ (n : Nat) (σ : OS) (v1 : Int32), fX9_remembers_7 n σ v1 = some q → J 0 0 (mC ad t σ ++ rs) 7 [(0, .ref (ad 0)), (1, .int v1)] [] := by
  intro n
  induction n with
  | zero => intro σ v1 hf; cases hf
  | succ n ih =>
    intro σ v1 hf
    replace hf := (fX9_remembers_7_s n σ v1).symm.trans hf
    refine j_iload_n (pc := 7) g 1 dX9_remembers_7 rfl ?_
    refine j_sipush (v := 131) (pc := 8) g dX9_remembers_8 (by decide) ?_
    refine j_icmp_ge (tgt := 32) (pc := 11) g dX9_remembers_11 (by decide) (fun c_11 => ?_) (fun c_11 => ?_)
    · have hf := gx_it c_11 hf
      exact hE _ _ _ hf dX9_remembers_32
    · have hf := gx_if c_11 hf
      refine j_aload_n (pc := 14) g 0 dX9_remembers_14 rfl ?_
      refine m9g_2 (pc := 15) g dX9_remembers_15 ?_
      refine j_iload_n (pc := 18) g 1 dX9_remembers_18 rfl ?_
      refine j_aload_n (pc := 19) g 0 dX9_remembers_19 rfl ?_
      refine m9g_1 (pc := 20) g dX9_remembers_20 ?_
      refine j_iload_n (pc := 23) g 1 dX9_remembers_23 rfl ?_
      obtain ⟨h_24, hf⟩ := gx_ck hf
      refine m9l_1 (pc := 24) g h_24 dX9_remembers_24 ?_
      obtain ⟨h_25, hf⟩ := gx_ck hf
      refine m9s_2 (pc := 25) g h_25 dX9_remembers_25 ?_
      refine j_iinc (v := v1 + 1) (L' := [(1, .int (v1 + 1)), (0, .ref (ad 0))]) (pc := 26) g 1 dX9_remembers_26 rfl rfl (Nat.le_of_ble_eq_true rfl) rfl ?_
      refine j_goto (tgt := 7) (pc := 29) g dX9_remembers_29 (by decide) ?_
      refine j_sub (pc := 7) g [1, 0] rfl ?_
      exact ih (os_sa σ 2 v1.toNatClampNeg (os_a σ 1 v1.toNatClampNeg)) (v1 + 1) hf
set_option maxRecDepth 100000 in
set_option maxHeartbeats 4000000 in
theorem cX9_remembers_ {D : va_G} {t : Nat → ClassId} {E : gx_E} {l : Launch} {ad : Nat → Nat} {rs : va_W} {σ : OS} {q : OS} (hf : fX9_remembers σ = some q) : gx_C D t E l yX9_remembers cX9_remembers 2 none 0 0 [.ref (ad 0)] (mC ad t σ ++ rs) (mC ad t q ++ rs) none := by
  refine gx_intro_v (by decide) (Nat.le_of_ble_eq_true rfl) (fun J g hE0 => ?_)
  have hE : ∀ (σ : OS) (pc : Nat) (L : List (Nat × Value)), some σ = some q → decode cX9_remembers pc = .ok (.return_, 1) → J 0 0 (mC ad t σ ++ rs) pc L [] := fun σ pc L h h1 => by cases h; exact hE0 pc L h1
  unfold fX9_remembers at hf
  show J 0 0 (mC ad t σ ++ rs) 0 [(0, .ref (ad 0))] []
  refine j_aload_n (pc := 0) g 0 dX9_remembers_0 rfl ?_
  refine j_iconst (v := 0) (pc := 1) g dX9_remembers_1 (by decide) ?_
  refine m9p_0 (pc := 2) g dX9_remembers_2 ?_
  refine j_iconst (v := 0) (pc := 5) g dX9_remembers_5 (by decide) ?_
  refine j_istore_n (L' := [(1, .int (0 : Int32)), (0, .ref (ad 0))]) (pc := 6) g dX9_remembers_6 rfl (Nat.le_of_ble_eq_true rfl) rfl ?_
  refine j_sub (pc := 7) g [1, 0] rfl ?_
  exact tX9_remembers_7 g hE 2000 (os_sf σ 0 (0 : Int32)) (0 : Int32) hf
theorem m9g_5 {D : va_G} {t : Nat → ClassId} {E : gx_E} {l : Launch} {R : Room} {cc : ByteArray} {nL : Nat} {J : gx_J} {ad : Nat → Nat} {rs : va_W} {k n pc : Nat} {L : List (Nat × Value)} {st : List Value} (g : gx_G D t E l R cc RX9 nL J) {σ : OS} (hd : decode cc pc = .ok (.getfield 45, 3)) (kk : J k n (mC ad t σ ++ rs) (pc + 3) L (.int (os_f σ 5) :: st)) : J k n (mC ad t σ ++ rs) pc L (.ref (ad 0) :: st) := j_get g in_X9 0 rfl rfl 5 (by decide) q_f_X9_45 rfl rfl hd kk
theorem m9p_5 {D : va_G} {t : Nat → ClassId} {E : gx_E} {l : Launch} {R : Room} {cc : ByteArray} {nL : Nat} {J : gx_J} {ad : Nat → Nat} {rs : va_W} {k n pc : Nat} {L : List (Nat × Value)} {st : List Value} (g : gx_G D t E l R cc RX9 nL J) {σ : OS} {v : Int32} (hd : decode cc pc = .ok (.putfield 45, 3)) (kk : J k n (mC ad t (os_sf σ 5 v) ++ rs) (pc + 3) L st) : J k n (mC ad t σ ++ rs) pc L (.int v :: .ref (ad 0) :: st) := j_put (w' := mC ad t (os_sf σ 5 v) ++ rs) g in_X9 0 rfl rfl 5 (by decide) q_f_X9_45 rfl tyX9 tyX9_ok nmX9 rfl (ty := .int) (by decide +kernel) rfl rfl (Nat.le_of_ble_eq_true rfl) rfl hd kk
theorem m9g_4 {D : va_G} {t : Nat → ClassId} {E : gx_E} {l : Launch} {R : Room} {cc : ByteArray} {nL : Nat} {J : gx_J} {ad : Nat → Nat} {rs : va_W} {k n pc : Nat} {L : List (Nat × Value)} {st : List Value} (g : gx_G D t E l R cc RX9 nL J) {σ : OS} (hd : decode cc pc = .ok (.getfield 19, 3)) (kk : J k n (mC ad t σ ++ rs) (pc + 3) L (.ref (ad 4) :: st)) : J k n (mC ad t σ ++ rs) pc L (.ref (ad 0) :: st) := j_get g in_X9 0 rfl rfl 4 (by decide) q_f_X9_19 rfl rfl hd kk
theorem m9l_2 {D : va_G} {t : Nat → ClassId} {E : gx_E} {l : Launch} {R : Room} {cc : ByteArray} {nL : Nat} {J : gx_J} {ad : Nat → Nat} {rs : va_W} {k n pc : Nat} {L : List (Nat × Value)} {st : List Value} (g : gx_G D t E l R cc RX9 nL J) {σ : OS} {i : Int32} (hin : gx_in i 131) (hd : decode cc pc = .ok (.iaload, 1)) (kk : J k n (mC ad t σ ++ rs) (pc + 1) L (.int (os_a σ 2 i.toNatClampNeg) :: st)) : J k n (mC ad t σ ++ rs) pc L (.int i :: .ref (ad 2) :: st) := j_iald g 2 rfl hin hd kk
theorem m9s_4 {D : va_G} {t : Nat → ClassId} {E : gx_E} {l : Launch} {R : Room} {cc : ByteArray} {nL : Nat} {J : gx_J} {ad : Nat → Nat} {rs : va_W} {k n pc : Nat} {L : List (Nat × Value)} {st : List Value} (g : gx_G D t E l R cc RX9 nL J) {σ : OS} {i x : Int32} (hin : gx_in i 1048) (hd : decode cc pc = .ok (.iastore, 1)) (kk : J k n (mC ad t (os_sa σ 4 i.toNatClampNeg x) ++ rs) (pc + 1) L st) : J k n (mC ad t σ ++ rs) pc L (.int x :: .int i :: .ref (ad 4) :: st) := j_iast (w' := mC ad t (os_sa σ 4 i.toNatClampNeg x) ++ rs) g 4 rfl hin rfl hd kk
theorem m9l_4 {D : va_G} {t : Nat → ClassId} {E : gx_E} {l : Launch} {R : Room} {cc : ByteArray} {nL : Nat} {J : gx_J} {ad : Nat → Nat} {rs : va_W} {k n pc : Nat} {L : List (Nat × Value)} {st : List Value} (g : gx_G D t E l R cc RX9 nL J) {σ : OS} {i : Int32} (hin : gx_in i 1048) (hd : decode cc pc = .ok (.iaload, 1)) (kk : J k n (mC ad t σ ++ rs) (pc + 1) L (.int (os_a σ 4 i.toNatClampNeg) :: st)) : J k n (mC ad t σ ++ rs) pc L (.int i :: .ref (ad 4) :: st) := j_iald g 4 rfl hin hd kk
set_option maxRecDepth 100000 in
set_option maxHeartbeats 4000000 in
theorem tX9_changed_55 {D : va_G} {t : Nat → ClassId} {E : gx_E} {l : Launch} {J : gx_J} {ad : Nat → Nat} {rs : va_W} {q : (Int32 × OS)} (g : gx_G D t E l ({ frames := 0, cells := 0, slots := 0, locals := 0 }) cX9_changed RX9 3 J) (hE : ∀ (v : Int32) (σ : OS) (pc : Nat) (L : List (Nat × Value)), some (v, σ) = some q → decode cX9_changed pc = .ok (.ireturn, 1) → narrow .int (.int v) = .int v → J 0 0 (mC ad t σ ++ rs) pc L [.int v])  : ∀ (n : Nat) (σ : OS) (v1 : Int32) (v2 : Int32), fX9_changed_55 n σ v1 v2 = some q → J 0 0 (mC ad t σ ++ rs) 55 [(0, .ref (ad 0)), (1, .int v1), (2, .int v2)] [] := by
  intro n
  induction n with
  | zero => intro σ v1 v2 hf; cases hf
  | succ n ih =>
    intro σ v1 v2 hf
    replace hf := (fX9_changed_55_s n σ v1 v2).symm.trans hf
    refine j_iload_n (pc := 55) g 2 dX9_changed_55 rfl ?_
    refine j_sipush (v := 131) (pc := 56) g dX9_changed_56 (by decide) ?_
    refine j_icmp_ge (tgt := 91) (pc := 59) g dX9_changed_59 (by decide) (fun c_59 => ?_) (fun c_59 => ?_)
    · have hf := gx_it c_59 hf
      refine j_iload_n (pc := 91) g 1 dX9_changed_91 rfl ?_
      exact hE _ _ _ _ hf dX9_changed_92 rfl
    · have hf := gx_if c_59 hf
      refine j_aload_n (pc := 62) g 0 dX9_changed_62 rfl ?_
      refine m9g_4 (pc := 63) g dX9_changed_63 ?_
      refine j_sipush (v := 131) (pc := 66) g dX9_changed_66 (by decide) ?_
      refine j_aload_n (pc := 69) g 0 dX9_changed_69 rfl ?_
      refine m9g_5 (pc := 70) g dX9_changed_70 ?_
      refine j_iconst (v := 1) (pc := 73) g dX9_changed_73 (by decide) ?_
      refine j_isub (pc := 74) g dX9_changed_74 ?_
      refine j_imul (pc := 75) g dX9_changed_75 ?_
      refine j_iload_n (pc := 76) g 2 dX9_changed_76 rfl ?_
      refine j_iadd (pc := 77) g dX9_changed_77 ?_
      refine j_aload_n (pc := 78) g 0 dX9_changed_78 rfl ?_
      refine m9g_2 (pc := 79) g dX9_changed_79 ?_
      refine j_iload_n (pc := 82) g 2 dX9_changed_82 rfl ?_
      obtain ⟨h_83, hf⟩ := gx_ck hf
      refine m9l_2 (pc := 83) g h_83 dX9_changed_83 ?_
      obtain ⟨h_84, hf⟩ := gx_ck hf
      refine m9s_4 (pc := 84) g h_84 dX9_changed_84 ?_
      refine j_iinc (v := v2 + 1) (L' := [(2, .int (v2 + 1)), (0, .ref (ad 0)), (1, .int v1)]) (pc := 85) g 2 dX9_changed_85 rfl rfl (Nat.le_of_ble_eq_true rfl) rfl ?_
      refine j_goto (tgt := 55) (pc := 88) g dX9_changed_88 (by decide) ?_
      refine j_sub (pc := 55) g [1, 2, 0] rfl ?_
      exact ih (os_sa σ 4 (((131 : Int32) * ((os_f σ 5) - (1 : Int32))) + v2).toNatClampNeg (os_a σ 2 v2.toNatClampNeg)) v1 (v2 + 1) hf
set_option maxRecDepth 100000 in
set_option maxHeartbeats 4000000 in
theorem tX9_changed_11 {D : va_G} {t : Nat → ClassId} {E : gx_E} {l : Launch} {J : gx_J} {ad : Nat → Nat} {rs : va_W} {q : (Int32 × OS)} (g : gx_G D t E l ({ frames := 0, cells := 0, slots := 0, locals := 0 }) cX9_changed RX9 3 J) (hE : ∀ (v : Int32) (σ : OS) (pc : Nat) (L : List (Nat × Value)), some (v, σ) = some q → decode cX9_changed pc = .ok (.ireturn, 1) → narrow .int (.int v) = .int v → J 0 0 (mC ad t σ ++ rs) pc L [.int v])  : ∀ (n : Nat) (σ : OS) (v1 : Int32) (v2 : Int32), fX9_changed_11 n σ v1 v2 = some q → J 0 0 (mC ad t σ ++ rs) 11 [(0, .ref (ad 0)), (1, .int v1), (2, .int v2)] [] := by
  intro n
  induction n with
  | zero => intro σ v1 v2 hf; cases hf
  | succ n ih =>
    intro σ v1 v2 hf
    replace hf := (fX9_changed_11_s n σ v1 v2).symm.trans hf
    refine j_iload_n (pc := 11) g 2 dX9_changed_11 rfl ?_
    refine j_sipush (v := 917) (pc := 12) g dX9_changed_12 (by decide) ?_
    refine j_icmp_ge (tgt := 40) (pc := 15) g dX9_changed_15 (by decide) (fun c_15 => ?_) (fun c_15 => ?_)
    · have hf := gx_it c_15 hf
      refine j_goto (tgt := 53) (pc := 40) g dX9_changed_40 (by decide) ?_
      refine j_iconst (v := 0) (pc := 53) g dX9_changed_53 (by decide) ?_
      refine j_istore_n (L' := [(2, .int (0 : Int32)), (0, .ref (ad 0)), (1, .int v1)]) (pc := 54) g dX9_changed_54 rfl (Nat.le_of_ble_eq_true rfl) rfl ?_
      refine j_sub (pc := 55) g [1, 2, 0] rfl ?_
      exact tX9_changed_55 g hE 2000 σ v1 (0 : Int32) hf
    · have hf := gx_if c_15 hf
      refine j_aload_n (pc := 18) g 0 dX9_changed_18 rfl ?_
      refine m9g_4 (pc := 19) g dX9_changed_19 ?_
      refine j_iload_n (pc := 22) g 2 dX9_changed_22 rfl ?_
      refine j_aload_n (pc := 23) g 0 dX9_changed_23 rfl ?_
      refine m9g_4 (pc := 24) g dX9_changed_24 ?_
      refine j_iload_n (pc := 27) g 2 dX9_changed_27 rfl ?_
      refine j_sipush (v := 131) (pc := 28) g dX9_changed_28 (by decide) ?_
      refine j_iadd (pc := 31) g dX9_changed_31 ?_
      obtain ⟨h_32, hf⟩ := gx_ck hf
      refine m9l_4 (pc := 32) g h_32 dX9_changed_32 ?_
      obtain ⟨h_33, hf⟩ := gx_ck hf
      refine m9s_4 (pc := 33) g h_33 dX9_changed_33 ?_
      refine j_iinc (v := v2 + 1) (L' := [(2, .int (v2 + 1)), (0, .ref (ad 0)), (1, .int v1)]) (pc := 34) g 2 dX9_changed_34 rfl rfl (Nat.le_of_ble_eq_true rfl) rfl ?_
      refine j_goto (tgt := 11) (pc := 37) g dX9_changed_37 (by decide) ?_
      refine j_sub (pc := 11) g [1, 2, 0] rfl ?_
      exact ih (os_sa σ 4 v2.toNatClampNeg (os_a σ 4 (v2 + (131 : Int32)).toNatClampNeg)) v1 (v2 + 1) hf
set_option maxRecDepth 100000 in
set_option maxHeartbeats 4000000 in
theorem cX9_changed_ {D : va_G} {t : Nat → ClassId} {E : gx_E} {l : Launch} {ad : Nat → Nat} {rs : va_W} {σ : OS} {p1 : Int32} {q : (Int32 × OS)} (hf : fX9_changed σ p1 = some q) : gx_C D t E l yX9_changed cX9_changed 3 (some .int) 0 0 [.ref (ad 0), .int p1] (mC ad t σ ++ rs) (mC ad t q.2 ++ rs) (some (.int q.1)) := by
  refine gx_intro_i (by decide) (Nat.le_of_ble_eq_true rfl) (fun J g hE0 => ?_)
  have hE : ∀ (v : Int32) (σ : OS) (pc : Nat) (L : List (Nat × Value)), some (v, σ) = some q → decode cX9_changed pc = .ok (.ireturn, 1) → narrow .int (.int v) = .int v → J 0 0 (mC ad t σ ++ rs) pc L [.int v] := fun v σ pc L h h1 h2 => by cases h; exact hE0 pc L h1 h2
  unfold fX9_changed at hf
  show J 0 0 (mC ad t σ ++ rs) 0 [(0, .ref (ad 0)), (1, .int p1)] []
  refine j_aload_n (pc := 0) g 0 dX9_changed_0 rfl ?_
  refine m9g_5 (pc := 1) g dX9_changed_1 ?_
  refine j_bipush (v := 8) (pc := 4) g dX9_changed_4 (by decide) ?_
  refine j_icmp_ne (tgt := 43) (pc := 6) g dX9_changed_6 (by decide) (fun c_6 => ?_) (fun c_6 => ?_)
  · have hf := gx_if c_6 hf
    refine j_aload_n (pc := 43) g 0 dX9_changed_43 rfl ?_
    refine j_dup (pc := 44) g dX9_changed_44 rfl ?_
    refine m9g_5 (pc := 45) g dX9_changed_45 ?_
    refine j_iconst (v := 1) (pc := 48) g dX9_changed_48 (by decide) ?_
    refine j_iadd (pc := 49) g dX9_changed_49 ?_
    refine m9p_5 (pc := 50) g dX9_changed_50 ?_
    refine j_iconst (v := 0) (pc := 53) g dX9_changed_53 (by decide) ?_
    refine j_istore_n (L' := [(2, .int (0 : Int32)), (0, .ref (ad 0)), (1, .int p1)]) (pc := 54) g dX9_changed_54 rfl (Nat.le_of_ble_eq_true rfl) rfl ?_
    refine j_sub (pc := 55) g [1, 2, 0] rfl ?_
    exact tX9_changed_55 g hE 2000 (os_sf σ 5 ((os_f σ 5) + (1 : Int32))) p1 (0 : Int32) hf
  · have hf := gx_it c_6 hf
    refine j_iconst (v := 0) (pc := 9) g dX9_changed_9 (by decide) ?_
    refine j_istore_n (L' := [(2, .int (0 : Int32)), (0, .ref (ad 0)), (1, .int p1)]) (pc := 10) g dX9_changed_10 rfl (Nat.le_of_ble_eq_true rfl) rfl ?_
    refine j_sub (pc := 11) g [1, 2, 0] rfl ?_
    exact tX9_changed_11 g hE 2000 σ p1 (0 : Int32) hf
theorem m9p_14 {D : va_G} {t : Nat → ClassId} {E : gx_E} {l : Launch} {R : Room} {cc : ByteArray} {nL : Nat} {J : gx_J} {ad : Nat → Nat} {rs : va_W} {k n pc : Nat} {L : List (Nat × Value)} {st : List Value} (g : gx_G D t E l R cc RX9 nL J) {σ : OS} {v : Int32} (hd : decode cc pc = .ok (.putfield 48, 3)) (kk : J k n (mC ad t (os_sf σ 14 v) ++ rs) (pc + 3) L st) : J k n (mC ad t σ ++ rs) pc L (.int v :: .ref (ad 0) :: st) := j_put (w' := mC ad t (os_sf σ 14 v) ++ rs) g in_X9 0 rfl rfl 14 (by decide) q_f_X9_48 rfl tyX9 tyX9_ok nmX9 rfl (ty := .int) (by decide +kernel) rfl rfl (Nat.le_of_ble_eq_true rfl) rfl hd kk
set_option maxRecDepth 100000 in
set_option maxHeartbeats 4000000 in
theorem cX9_done_ {D : va_G} {t : Nat → ClassId} {E : gx_E} {l : Launch} {ad : Nat → Nat} {rs : va_W} {σ : OS} {p1 : Int32} {q : (Int32 × OS)} (hf : fX9_done σ p1 = some q) : gx_C D t E l yX9_done cX9_done 2 (some .int) 0 0 [.ref (ad 0), .int p1] (mC ad t σ ++ rs) (mC ad t q.2 ++ rs) (some (.int q.1)) := by
  refine gx_intro_i (by decide) (Nat.le_of_ble_eq_true rfl) (fun J g hE0 => ?_)
  have hE : ∀ (v : Int32) (σ : OS) (pc : Nat) (L : List (Nat × Value)), some (v, σ) = some q → decode cX9_done pc = .ok (.ireturn, 1) → narrow .int (.int v) = .int v → J 0 0 (mC ad t σ ++ rs) pc L [.int v] := fun v σ pc L h h1 h2 => by cases h; exact hE0 pc L h1 h2
  unfold fX9_done at hf
  show J 0 0 (mC ad t σ ++ rs) 0 [(0, .ref (ad 0)), (1, .int p1)] []
  refine j_aload_n (pc := 0) g 0 dX9_done_0 rfl ?_
  refine j_iload_n (pc := 1) g 1 dX9_done_1 rfl ?_
  refine m9p_14 (pc := 2) g dX9_done_2 ?_
  refine j_iconst (v := 0) (pc := 5) g dX9_done_5 (by decide) ?_
  exact hE _ _ _ _ hf dX9_done_6 rfl
theorem m9c_X9_fails {D : va_G} {t : Nat → ClassId} {E : gx_E} {l : Launch} {R : Room} {cc : ByteArray} {nL : Nat} {J : gx_J} {ad : Nat → Nat} {rs : va_W} {k n pc : Nat} {L : List (Nat × Value)} {rest : List Value} (g : gx_G D t E l R cc RX9 nL J) {σ : OS} {x0 : Int32} {q : (Int32 × OS)} (hR : 0 + 1 ≤ R.frames ∧ 8 + (2 + 11) + 0 ≤ R.locals) (hkn : k ≤ R.cells ∧ n ≤ R.slots) (hcat : (rest.map fun v => v.category).sum ≤ 8) (hf : fX9_fails σ x0 = some q) (hd : decode cc pc = .ok (.invokevirtual 55, 3)) (kk : J k n (mC ad t q.2 ++ rs) (pc + 3) L (.int q.1 :: rest)) : J k n (mC ad t σ ++ rs) pc L (.int x0 :: .ref (ad 0) :: rest) := j_callVi (na := 1) (As := [.int x0]) (q0 := 0) (ci := 10) g (cX9_fails_  hf) q_i_X9_fails q_s_X9_fails rfl rfl rfl q_c_X9_fails q_l_X9_55 q_n_X9 (by decide +kernel) rfl hR hkn hcat (.refl _) (.refl _) hd kk rfl
theorem m9g_14 {D : va_G} {t : Nat → ClassId} {E : gx_E} {l : Launch} {R : Room} {cc : ByteArray} {nL : Nat} {J : gx_J} {ad : Nat → Nat} {rs : va_W} {k n pc : Nat} {L : List (Nat × Value)} {st : List Value} (g : gx_G D t E l R cc RX9 nL J) {σ : OS} (hd : decode cc pc = .ok (.getfield 48, 3)) (kk : J k n (mC ad t σ ++ rs) (pc + 3) L (.int (os_f σ 14) :: st)) : J k n (mC ad t σ ++ rs) pc L (.ref (ad 0) :: st) := j_get g in_X9 0 rfl rfl 14 (by decide) q_f_X9_48 rfl rfl hd kk
theorem m9c_X9_changed {D : va_G} {t : Nat → ClassId} {E : gx_E} {l : Launch} {R : Room} {cc : ByteArray} {nL : Nat} {J : gx_J} {ad : Nat → Nat} {rs : va_W} {k n pc : Nat} {L : List (Nat × Value)} {rest : List Value} (g : gx_G D t E l R cc RX9 nL J) {σ : OS} {x0 : Int32} {q : (Int32 × OS)} (hR : 0 + 1 ≤ R.frames ∧ 8 + (3 + 11) + 0 ≤ R.locals) (hkn : k ≤ R.cells ∧ n ≤ R.slots) (hcat : (rest.map fun v => v.category).sum ≤ 8) (hf : fX9_changed σ x0 = some q) (hd : decode cc pc = .ok (.invokevirtual 51, 3)) (kk : J k n (mC ad t q.2 ++ rs) (pc + 3) L (.int q.1 :: rest)) : J k n (mC ad t σ ++ rs) pc L (.int x0 :: .ref (ad 0) :: rest) := j_callVi (na := 1) (As := [.int x0]) (q0 := 0) (ci := 10) g (cX9_changed_  hf) q_i_X9_changed q_s_X9_changed rfl rfl rfl q_c_X9_changed q_l_X9_51 q_n_X9 (by decide +kernel) rfl hR hkn hcat (.refl _) (.refl _) hd kk rfl
set_option maxRecDepth 100000 in
set_option maxHeartbeats 4000000 in
theorem cX9_ends_ {D : va_G} {t : Nat → ClassId} {E : gx_E} {l : Launch} {ad : Nat → Nat} {rs : va_W} {σ : OS} {p1 : Int32} {q : (Int32 × OS)} (hf : fX9_ends σ p1 = some q) : gx_C D t E l yX9_ends cX9_ends 2 (some .int) 1 22 [.ref (ad 0), .int p1] (mC ad t σ ++ rs) (mC ad t q.2 ++ rs) (some (.int q.1)) := by
  refine gx_intro_i (by decide) (Nat.le_of_ble_eq_true rfl) (fun J g hE0 => ?_)
  have hE : ∀ (v : Int32) (σ : OS) (pc : Nat) (L : List (Nat × Value)), some (v, σ) = some q → decode cX9_ends pc = .ok (.ireturn, 1) → narrow .int (.int v) = .int v → J 0 0 (mC ad t σ ++ rs) pc L [.int v] := fun v σ pc L h h1 h2 => by cases h; exact hE0 pc L h1 h2
  unfold fX9_ends at hf
  show J 0 0 (mC ad t σ ++ rs) 0 [(0, .ref (ad 0)), (1, .int p1)] []
  refine j_iload_n (pc := 0) g 1 dX9_ends_0 rfl ?_
  refine j_if_ne (tgt := 15) (pc := 1) g dX9_ends_1 (by decide) (fun c_1 => ?_) (fun c_1 => ?_)
  · have hf := gx_if c_1 hf
    refine j_aload_n (pc := 15) g 0 dX9_ends_15 rfl ?_
    refine j_iload_n (pc := 16) g 1 dX9_ends_16 rfl ?_
    obtain ⟨r17, h_17, hf⟩ := gx_bs hf
    refine m9c_X9_fails (pc := 17) g ⟨Nat.le_of_ble_eq_true rfl, Nat.le_of_ble_eq_true rfl⟩ ⟨Nat.zero_le _, Nat.zero_le _⟩ (Nat.le_of_ble_eq_true rfl) h_17 dX9_ends_17 ?_
    exact hE _ _ _ _ hf dX9_ends_20 rfl
  · have hf := gx_it c_1 hf
    refine j_aload_n (pc := 4) g 0 dX9_ends_4 rfl ?_
    refine j_aload_n (pc := 5) g 0 dX9_ends_5 rfl ?_
    refine m9g_14 (pc := 6) g dX9_ends_6 ?_
    obtain ⟨r9, h_9, hf⟩ := gx_bs hf
    refine m9c_X9_changed (pc := 9) g ⟨Nat.le_of_ble_eq_true rfl, Nat.le_of_ble_eq_true rfl⟩ ⟨Nat.zero_le _, Nat.zero_le _⟩ (Nat.le_of_ble_eq_true rfl) h_9 dX9_ends_9 ?_
    refine j_goto (tgt := 20) (pc := 12) g dX9_ends_12 (by decide) ?_
    exact hE _ _ _ _ hf dX9_ends_20 rfl

set_option maxRecDepth 100000 in
set_option maxHeartbeats 4000000 in
theorem cX9_of_ {D : va_G} {t : Nat → ClassId} {E : gx_E} {l : Launch} {ad : Nat → Nat} {rs : va_W} {σ : OS} {p1 : Int32} {p2 : Int32} {q : Int32} (hf : fX9_of σ p1 p2 = some q) : gx_C D t E l yX9_of cX9_of 3 (some .int) 0 0 [.ref (ad 0), .int p1, .int p2] (mC ad t σ ++ rs) (mC ad t σ ++ rs) (some (.int q)) := by
  refine gx_intro_i (by decide) (Nat.le_of_ble_eq_true rfl) (fun J g hE0 => ?_)
  have hE : ∀ (v : Int32) (pc : Nat) (L : List (Nat × Value)), some v = some q → decode cX9_of pc = .ok (.ireturn, 1) → narrow .int (.int v) = .int v → J 0 0 (mC ad t σ ++ rs) pc L [.int v] := fun v pc L h h1 h2 => by cases h; exact hE0 pc L h1 h2
  unfold fX9_of at hf
  show J 0 0 (mC ad t σ ++ rs) 0 [(0, .ref (ad 0)), (1, .int p1), (2, .int p2)] []
  refine j_aload_n (pc := 0) g 0 dX9_of_0 rfl ?_
  refine m9g_1 (pc := 1) g dX9_of_1 ?_
  refine j_bipush (v := 7) (pc := 4) g dX9_of_4 (by decide) ?_
  refine j_iconst (v := 5) (pc := 6) g dX9_of_6 (by decide) ?_
  refine j_iload_n (pc := 7) g 1 dX9_of_7 rfl ?_
  refine j_imul (pc := 8) g dX9_of_8 ?_
  refine j_iadd (pc := 9) g dX9_of_9 ?_
  refine j_iload_n (pc := 10) g 2 dX9_of_10 rfl ?_
  refine j_iadd (pc := 11) g dX9_of_11 ?_
  obtain ⟨h_12, hf⟩ := gx_ck hf
  refine m9l_1 (pc := 12) g h_12 dX9_of_12 ?_
  exact hE _ _ _ hf dX9_of_13 rfl
theorem m9s_1 {D : va_G} {t : Nat → ClassId} {E : gx_E} {l : Launch} {R : Room} {cc : ByteArray} {nL : Nat} {J : gx_J} {ad : Nat → Nat} {rs : va_W} {k n pc : Nat} {L : List (Nat × Value)} {st : List Value} (g : gx_G D t E l R cc RX9 nL J) {σ : OS} {i x : Int32} (hin : gx_in i 131) (hd : decode cc pc = .ok (.iastore, 1)) (kk : J k n (mC ad t (os_sa σ 1 i.toNatClampNeg x) ++ rs) (pc + 1) L st) : J k n (mC ad t σ ++ rs) pc L (.int x :: .int i :: .ref (ad 1) :: st) := j_iast (w' := mC ad t (os_sa σ 1 i.toNatClampNeg x) ++ rs) g 1 rfl hin rfl hd kk
set_option maxRecDepth 100000 in
set_option maxHeartbeats 4000000 in
theorem cX9_sets_ {D : va_G} {t : Nat → ClassId} {E : gx_E} {l : Launch} {ad : Nat → Nat} {rs : va_W} {σ : OS} {p1 : Int32} {p2 : Int32} {p3 : Int32} {q : OS} (hf : fX9_sets σ p1 p2 p3 = some q) : gx_C D t E l yX9_sets cX9_sets 4 none 0 0 [.ref (ad 0), .int p1, .int p2, .int p3] (mC ad t σ ++ rs) (mC ad t q ++ rs) none := by
  refine gx_intro_v (by decide) (Nat.le_of_ble_eq_true rfl) (fun J g hE0 => ?_)
  have hE : ∀ (σ : OS) (pc : Nat) (L : List (Nat × Value)), some σ = some q → decode cX9_sets pc = .ok (.return_, 1) → J 0 0 (mC ad t σ ++ rs) pc L [] := fun σ pc L h h1 => by cases h; exact hE0 pc L h1
  unfold fX9_sets at hf
  show J 0 0 (mC ad t σ ++ rs) 0 [(0, .ref (ad 0)), (1, .int p1), (2, .int p2), (3, .int p3)] []
  refine j_aload_n (pc := 0) g 0 dX9_sets_0 rfl ?_
  refine m9g_1 (pc := 1) g dX9_sets_1 ?_
  refine j_bipush (v := 7) (pc := 4) g dX9_sets_4 (by decide) ?_
  refine j_iconst (v := 5) (pc := 6) g dX9_sets_6 (by decide) ?_
  refine j_iload_n (pc := 7) g 1 dX9_sets_7 rfl ?_
  refine j_imul (pc := 8) g dX9_sets_8 ?_
  refine j_iadd (pc := 9) g dX9_sets_9 ?_
  refine j_iload_n (pc := 10) g 2 dX9_sets_10 rfl ?_
  refine j_iadd (pc := 11) g dX9_sets_11 ?_
  refine j_iload_n (pc := 12) g 3 dX9_sets_12 rfl ?_
  obtain ⟨h_13, hf⟩ := gx_ck hf
  refine m9s_1 (pc := 13) g h_13 dX9_sets_13 ?_
  exact hE _ _ _ hf dX9_sets_14
theorem m9c_X9_in {D : va_G} {t : Nat → ClassId} {E : gx_E} {l : Launch} {R : Room} {cc : ByteArray} {nL : Nat} {J : gx_J} {k n pc : Nat} {L : List (Nat × Value)} {rest : List Value} (g : gx_G D t E l R cc RX9 nL J) {w : va_W} {x0 : Int32} {x1 : Int32} {x2 : Int32} {q : Int32} (hR : 0 + 1 ≤ R.frames ∧ 8 + (3 + 11) + 0 ≤ R.locals) (hkn : k ≤ R.cells ∧ n ≤ R.slots) (hcat : (rest.map fun v => v.category).sum ≤ 8) (hf : fX9_in x0 x1 x2 = some q) (hd : decode cc pc = .ok (.invokestatic 58, 3)) (kk : J k n w (pc + 3) L (.int q :: rest)) : J k n w pc L (.int x2 :: .int x1 :: .int x0 :: rest) := j_callSi (na := 3) (As := [.int x0, .int x1, .int x2]) g (cX9_in_ (rs := w) (ad := fun i => i) hf) q_t_X9_in q_c_X9_in q_l_X9_58 q_n_X9 (by decide +kernel) rfl hR hkn hcat (.refl _) (.refl _) hd kk rfl
theorem m9c_X9_of {D : va_G} {t : Nat → ClassId} {E : gx_E} {l : Launch} {R : Room} {cc : ByteArray} {nL : Nat} {J : gx_J} {ad : Nat → Nat} {rs : va_W} {k n pc : Nat} {L : List (Nat × Value)} {rest : List Value} (g : gx_G D t E l R cc RX9 nL J) {σ : OS} {x0 : Int32} {x1 : Int32} {q : Int32} (hR : 0 + 1 ≤ R.frames ∧ 8 + (3 + 11) + 0 ≤ R.locals) (hkn : k ≤ R.cells ∧ n ≤ R.slots) (hcat : (rest.map fun v => v.category).sum ≤ 8) (hf : fX9_of σ x0 x1 = some q) (hd : decode cc pc = .ok (.invokevirtual 62, 3)) (kk : J k n (mC ad t σ ++ rs) (pc + 3) L (.int q :: rest)) : J k n (mC ad t σ ++ rs) pc L (.int x1 :: .int x0 :: .ref (ad 0) :: rest) := j_callVi (na := 2) (As := [.int x0, .int x1]) (q0 := 0) (ci := 10) g (cX9_of_  hf) q_i_X9_of q_s_X9_of rfl rfl rfl q_c_X9_of q_l_X9_62 q_n_X9 (by decide +kernel) rfl hR hkn hcat (.refl _) (.refl _) hd kk rfl
set_option maxRecDepth 100000 in
set_option maxHeartbeats 4000000 in
theorem cX9_is_ {D : va_G} {t : Nat → ClassId} {E : gx_E} {l : Launch} {ad : Nat → Nat} {rs : va_W} {σ : OS} {p1 : Int32} {q : Int32} (hf : fX9_is σ p1 = some q) : gx_C D t E l yX9_is cX9_is 2 (some .boolean) 1 22 [.ref (ad 0), .int p1] (mC ad t σ ++ rs) (mC ad t σ ++ rs) (some (.int q)) := by
  refine gx_intro_i (by decide) (Nat.le_of_ble_eq_true rfl) (fun J g hE0 => ?_)
  have hE : ∀ (v : Int32) (pc : Nat) (L : List (Nat × Value)), some v = some q → decode cX9_is pc = .ok (.ireturn, 1) → narrow .boolean (.int v) = .int v → J 0 0 (mC ad t σ ++ rs) pc L [.int v] := fun v pc L h h1 h2 => by cases h; exact hE0 pc L h1 h2
  unfold fX9_is at hf
  show J 0 0 (mC ad t σ ++ rs) 0 [(0, .ref (ad 0)), (1, .int p1)] []
  refine j_iload_n (pc := 0) g 1 dX9_is_0 rfl ?_
  refine j_iconst (v := 0) (pc := 1) g dX9_is_1 (by decide) ?_
  refine j_aload_n (pc := 2) g 0 dX9_is_2 rfl ?_
  refine m9g_1 (pc := 3) g dX9_is_3 ?_
  refine j_iconst (v := 0) (pc := 6) g dX9_is_6 (by decide) ?_
  obtain ⟨h_7, hf⟩ := gx_ck hf
  refine m9l_1 (pc := 7) g h_7 dX9_is_7 ?_
  refine j_iconst (v := 1) (pc := 8) g dX9_is_8 (by decide) ?_
  refine j_isub (pc := 9) g dX9_is_9 ?_
  obtain ⟨r10, h_10, hf⟩ := gx_bs hf
  refine m9c_X9_in (pc := 10) g ⟨Nat.le_of_ble_eq_true rfl, Nat.le_of_ble_eq_true rfl⟩ ⟨Nat.zero_le _, Nat.zero_le _⟩ (Nat.le_of_ble_eq_true rfl) h_10 dX9_is_10 ?_
  refine j_if_eq (tgt := 30) (pc := 13) g dX9_is_13 (by decide) (fun c_13 => ?_) (fun c_13 => ?_)
  · have hf := gx_it c_13 hf
    refine j_iconst (v := 0) (pc := 30) g dX9_is_30 (by decide) ?_
    exact hE _ _ _ hf dX9_is_31 rfl
  · have hf := gx_if c_13 hf
    refine j_aload_n (pc := 16) g 0 dX9_is_16 rfl ?_
    refine j_iload_n (pc := 17) g 1 dX9_is_17 rfl ?_
    refine j_iconst (v := 0) (pc := 18) g dX9_is_18 (by decide) ?_
    obtain ⟨r19, h_19, hf⟩ := gx_bs hf
    refine m9c_X9_of (pc := 19) g ⟨Nat.le_of_ble_eq_true rfl, Nat.le_of_ble_eq_true rfl⟩ ⟨Nat.zero_le _, Nat.zero_le _⟩ (Nat.le_of_ble_eq_true rfl) h_19 dX9_is_19 ?_
    refine j_iconst (v := 1) (pc := 22) g dX9_is_22 (by decide) ?_
    refine j_icmp_ne (tgt := 30) (pc := 23) g dX9_is_23 (by decide) (fun c_23 => ?_) (fun c_23 => ?_)
    · have hf := gx_if c_23 hf
      refine j_iconst (v := 0) (pc := 30) g dX9_is_30 (by decide) ?_
      exact hE _ _ _ hf dX9_is_31 rfl
    · have hf := gx_it c_23 hf
      refine j_iconst (v := 1) (pc := 26) g dX9_is_26 (by decide) ?_
      refine j_goto (tgt := 31) (pc := 27) g dX9_is_27 (by decide) ?_
      exact hE _ _ _ hf dX9_is_31 rfl

set_option maxRecDepth 100000 in
set_option maxHeartbeats 4000000 in
theorem tX9_many_4 {D : va_G} {t : Nat → ClassId} {E : gx_E} {l : Launch} {J : gx_J} {ad : Nat → Nat} {rs : va_W} {σ : OS} {q : Int32} (g : gx_G D t E l ({ frames := 1, cells := 0, slots := 0, locals := 22 }) cX9_many RX9 3 J) (hE : ∀ (v : Int32) (pc : Nat) (L : List (Nat × Value)), some v = some q → decode cX9_many pc = .ok (.ireturn, 1) → narrow .int (.int v) = .int v → J 0 0 (mC ad t σ ++ rs) pc L [.int v])  : ∀ (n : Nat) (v1 : Int32) (v2 : Int32), fX9_many_4 σ n v1 v2 = some q → J 0 0 (mC ad t σ ++ rs) 4 [(0, .ref (ad 0)), (1, .int v1), (2, .int v2)] [] := by
  intro n
  induction n with
  | zero => intro v1 v2 hf; cases hf
  | succ n ih =>
    intro v1 v2 hf
    replace hf := (fX9_many_4_s σ n v1 v2).symm.trans hf
    refine j_iload_n (pc := 4) g 2 dX9_many_4 rfl ?_
    refine j_aload_n (pc := 5) g 0 dX9_many_5 rfl ?_
    refine m9g_1 (pc := 6) g dX9_many_6 ?_
    refine j_iconst (v := 0) (pc := 9) g dX9_many_9 (by decide) ?_
    obtain ⟨h_10, hf⟩ := gx_ck hf
    refine m9l_1 (pc := 10) g h_10 dX9_many_10 ?_
    refine j_icmp_ge (tgt := 29) (pc := 11) g dX9_many_11 (by decide) (fun c_11 => ?_) (fun c_11 => ?_)
    · have hf := gx_it c_11 hf
      refine j_iload_n (pc := 29) g 1 dX9_many_29 rfl ?_
      exact hE _ _ _ hf dX9_many_30 rfl
    · have hf := gx_if c_11 hf
      refine j_iload_n (pc := 14) g 1 dX9_many_14 rfl ?_
      refine j_aload_n (pc := 15) g 0 dX9_many_15 rfl ?_
      refine j_iload_n (pc := 16) g 2 dX9_many_16 rfl ?_
      refine j_iconst (v := 0) (pc := 17) g dX9_many_17 (by decide) ?_
      obtain ⟨r18, h_18, hf⟩ := gx_bs hf
      refine m9c_X9_of (pc := 18) g ⟨Nat.le_of_ble_eq_true rfl, Nat.le_of_ble_eq_true rfl⟩ ⟨Nat.zero_le _, Nat.zero_le _⟩ (Nat.le_of_ble_eq_true rfl) h_18 dX9_many_18 ?_
      refine j_iadd (pc := 21) g dX9_many_21 ?_
      refine j_istore_n (L' := [(1, .int (v1 + r18)), (0, .ref (ad 0)), (2, .int v2)]) (pc := 22) g dX9_many_22 rfl (Nat.le_of_ble_eq_true rfl) rfl ?_
      refine j_iinc (v := v2 + 1) (L' := [(2, .int (v2 + 1)), (1, .int (v1 + r18)), (0, .ref (ad 0))]) (pc := 23) g 2 dX9_many_23 rfl rfl (Nat.le_of_ble_eq_true rfl) rfl ?_
      refine j_goto (tgt := 4) (pc := 26) g dX9_many_26 (by decide) ?_
      refine j_sub (pc := 4) g [2, 1, 0] rfl ?_
      exact ih (v1 + r18) (v2 + 1) hf
set_option maxRecDepth 100000 in
set_option maxHeartbeats 4000000 in
theorem cX9_many_ {D : va_G} {t : Nat → ClassId} {E : gx_E} {l : Launch} {ad : Nat → Nat} {rs : va_W} {σ : OS} {q : Int32} (hf : fX9_many σ = some q) : gx_C D t E l yX9_many cX9_many 3 (some .int) 1 22 [.ref (ad 0)] (mC ad t σ ++ rs) (mC ad t σ ++ rs) (some (.int q)) := by
  refine gx_intro_i (by decide) (Nat.le_of_ble_eq_true rfl) (fun J g hE0 => ?_)
  have hE : ∀ (v : Int32) (pc : Nat) (L : List (Nat × Value)), some v = some q → decode cX9_many pc = .ok (.ireturn, 1) → narrow .int (.int v) = .int v → J 0 0 (mC ad t σ ++ rs) pc L [.int v] := fun v pc L h h1 h2 => by cases h; exact hE0 pc L h1 h2
  unfold fX9_many at hf
  show J 0 0 (mC ad t σ ++ rs) 0 [(0, .ref (ad 0))] []
  refine j_iconst (v := 0) (pc := 0) g dX9_many_0 (by decide) ?_
  refine j_istore_n (L' := [(1, .int (0 : Int32)), (0, .ref (ad 0))]) (pc := 1) g dX9_many_1 rfl (Nat.le_of_ble_eq_true rfl) rfl ?_
  refine j_iconst (v := 0) (pc := 2) g dX9_many_2 (by decide) ?_
  refine j_istore_n (L' := [(2, .int (0 : Int32)), (1, .int (0 : Int32)), (0, .ref (ad 0))]) (pc := 3) g dX9_many_3 rfl (Nat.le_of_ble_eq_true rfl) rfl ?_
  refine j_sub (pc := 4) g [2, 1, 0] rfl ?_
  exact tX9_many_4 g hE 2000 (0 : Int32) (0 : Int32) hf

set_option maxRecDepth 100000 in
set_option maxHeartbeats 4000000 in
theorem tX9_above_27 {D : va_G} {t : Nat → ClassId} {E : gx_E} {l : Launch} {J : gx_J} {ad : Nat → Nat} {rs : va_W} {σ : OS} {q : Int32} (g : gx_G D t E l ({ frames := 1, cells := 0, slots := 0, locals := 22 }) cX9_above RX9 4 J) (hE : ∀ (v : Int32) (pc : Nat) (L : List (Nat × Value)), some v = some q → decode cX9_above pc = .ok (.ireturn, 1) → narrow .boolean (.int v) = .int v → J 0 0 (mC ad t σ ++ rs) pc L [.int v])  : ∀ (v1 : Int32) (v3 : Int32), fX9_above_27 σ v1 v3 = some q → J 0 0 (mC ad t σ ++ rs) 27 [(1, .int v1), (3, .int v3)] [] := by
  intro v1 v3 hf
  unfold fX9_above_27 at hf
  refine j_iload_n (pc := 27) g 1 dX9_above_27 rfl ?_
  refine j_iload_n (pc := 28) g 0 dX9_above_28 rfl ?_
  refine j_icmp_ne (tgt := 36) (pc := 29) g dX9_above_29 (by decide) (fun c_29 => ?_) (fun c_29 => ?_)
  · have hf := gx_if c_29 hf
    refine j_iconst (v := 0) (pc := 36) g dX9_above_36 (by decide) ?_
    exact hE _ _ _ hf dX9_above_37 rfl
  · have hf := gx_it c_29 hf
    refine j_iconst (v := 1) (pc := 32) g dX9_above_32 (by decide) ?_
    refine j_goto (tgt := 37) (pc := 33) g dX9_above_33 (by decide) ?_
    exact hE _ _ _ hf dX9_above_37 rfl
set_option maxRecDepth 100000 in
set_option maxHeartbeats 4000000 in
theorem tX9_above_7 {D : va_G} {t : Nat → ClassId} {E : gx_E} {l : Launch} {J : gx_J} {ad : Nat → Nat} {rs : va_W} {σ : OS} {q : Int32} (g : gx_G D t E l ({ frames := 1, cells := 0, slots := 0, locals := 22 }) cX9_above RX9 4 J) (hE : ∀ (v : Int32) (pc : Nat) (L : List (Nat × Value)), some v = some q → decode cX9_above pc = .ok (.ireturn, 1) → narrow .boolean (.int v) = .int v → J 0 0 (mC ad t σ ++ rs) pc L [.int v])  : ∀ (n : Nat) (v1 : Int32) (v3 : Int32), fX9_above_7 σ n v1 v3 = some q → J 0 0 (mC ad t σ ++ rs) 7 [(0, .ref (ad 0)), (1, .int v1), (3, .int v3)] [] := by
  intro n
  induction n with
  | zero => intro v1 v3 hf; cases hf
  | succ n ih =>
    intro v1 v3 hf
    replace hf := (fX9_above_7_s σ n v1 v3).symm.trans hf
    refine j_iload_n (pc := 7) g 2 dX9_above_7 rfl ?_
    refine j_iconst (v := -1) (pc := 8) g dX9_above_8 (by decide) ?_
    refine j_icmp_eq (tgt := 27) (pc := 9) g dX9_above_9 (by decide) (fun c_9 => ?_) (fun c_9 => ?_)
    · have hf := gx_it c_9 hf
      refine j_sub (pc := 27) g [1, 2] rfl ?_
      exact tX9_above_27 g hE v1 v3 hf
    · have hf := gx_if c_9 hf
      refine j_iload_n (pc := 12) g 2 dX9_above_12 rfl ?_
      refine j_iload_n (pc := 13) g 1 dX9_above_13 rfl ?_
      refine j_icmp_eq (tgt := 27) (pc := 14) g dX9_above_14 (by decide) (fun c_14 => ?_) (fun c_14 => ?_)
      · have hf := gx_it c_14 hf
        refine j_sub (pc := 27) g [1, 2] rfl ?_
        exact tX9_above_27 g hE v1 v3 hf
      · have hf := gx_if c_14 hf
        refine j_aload_n (pc := 17) g 0 dX9_above_17 rfl ?_
        refine j_iload_n (pc := 18) g 2 dX9_above_18 rfl ?_
        refine j_iconst (v := 4) (pc := 19) g dX9_above_19 (by decide) ?_
        obtain ⟨r20, h_20, hf⟩ := gx_bs hf
        refine m9c_X9_of (pc := 20) g ⟨Nat.le_of_ble_eq_true rfl, Nat.le_of_ble_eq_true rfl⟩ ⟨Nat.zero_le _, Nat.zero_le _⟩ (Nat.le_of_ble_eq_true rfl) h_20 dX9_above_20 ?_
        refine j_istore_n (L' := [(3, .int r20), (0, .ref (ad 0)), (1, .int v1)]) (pc := 23) g dX9_above_23 rfl (Nat.le_of_ble_eq_true rfl) rfl ?_
        refine j_goto (tgt := 7) (pc := 24) g dX9_above_24 (by decide) ?_
        refine j_sub (pc := 7) g [1, 2, 0] rfl ?_
        exact ih v1 r20 hf
set_option maxRecDepth 100000 in
set_option maxHeartbeats 4000000 in
theorem cX9_above_ {D : va_G} {t : Nat → ClassId} {E : gx_E} {l : Launch} {ad : Nat → Nat} {rs : va_W} {σ : OS} {p1 : Int32} {p2 : Int32} {q : Int32} (hf : fX9_above σ p1 p2 = some q) : gx_C D t E l yX9_above cX9_above 4 (some .boolean) 1 22 [.ref (ad 0), .int p1, .int p2] (mC ad t σ ++ rs) (mC ad t σ ++ rs) (some (.int q)) := by
  refine gx_intro_i (by decide) (Nat.le_of_ble_eq_true rfl) (fun J g hE0 => ?_)
  have hE : ∀ (v : Int32) (pc : Nat) (L : List (Nat × Value)), some v = some q → decode cX9_above pc = .ok (.ireturn, 1) → narrow .boolean (.int v) = .int v → J 0 0 (mC ad t σ ++ rs) pc L [.int v] := fun v pc L h h1 h2 => by cases h; exact hE0 pc L h1 h2
  unfold fX9_above at hf
  show J 0 0 (mC ad t σ ++ rs) 0 [(0, .ref (ad 0)), (1, .int p1), (2, .int p2)] []
  refine j_aload_n (pc := 0) g 0 dX9_above_0 rfl ?_
  refine j_iload_n (pc := 1) g 2 dX9_above_1 rfl ?_
  refine j_iconst (v := 4) (pc := 2) g dX9_above_2 (by decide) ?_
  obtain ⟨r3, h_3, hf⟩ := gx_bs hf
  refine m9c_X9_of (pc := 3) g ⟨Nat.le_of_ble_eq_true rfl, Nat.le_of_ble_eq_true rfl⟩ ⟨Nat.zero_le _, Nat.zero_le _⟩ (Nat.le_of_ble_eq_true rfl) h_3 dX9_above_3 ?_
  refine j_istore_n (L' := [(3, .int r3), (0, .ref (ad 0)), (1, .int p1), (2, .int p2)]) (pc := 6) g dX9_above_6 rfl (Nat.le_of_ble_eq_true rfl) rfl ?_
  refine j_sub (pc := 7) g [1, 2, 0] rfl ?_
  exact tX9_above_7 g hE 2000 p1 r3 hf

set_option maxRecDepth 100000 in
set_option maxHeartbeats 4000000 in
theorem tX9_deep_9 {D : va_G} {t : Nat → ClassId} {E : gx_E} {l : Launch} {J : gx_J} {ad : Nat → Nat} {rs : va_W} {σ : OS} {q : Int32} (g : gx_G D t E l ({ frames := 1, cells := 0, slots := 0, locals := 22 }) cX9_deep RX9 4 J) (hE : ∀ (v : Int32) (pc : Nat) (L : List (Nat × Value)), some v = some q → decode cX9_deep pc = .ok (.ireturn, 1) → narrow .int (.int v) = .int v → J 0 0 (mC ad t σ ++ rs) pc L [.int v])  : ∀ (n : Nat) (v2 : Int32) (v3 : Int32), fX9_deep_9 σ n v2 v3 = some q → J 0 0 (mC ad t σ ++ rs) 9 [(0, .ref (ad 0)), (2, .int v2), (3, .int v3)] [] := by
  intro n
  induction n with
  | zero => intro v2 v3 hf; cases hf
  | succ n ih =>
    intro v2 v3 hf
    replace hf := (fX9_deep_9_s σ n v2 v3).symm.trans hf
    refine j_iload_n (pc := 9) g 2 dX9_deep_9 rfl ?_
    refine j_iconst (v := -1) (pc := 10) g dX9_deep_10 (by decide) ?_
    refine j_icmp_eq (tgt := 27) (pc := 11) g dX9_deep_11 (by decide) (fun c_11 => ?_) (fun c_11 => ?_)
    · have hf := gx_it c_11 hf
      refine j_iload_n (pc := 27) g 1 dX9_deep_27 rfl ?_
      exact hE _ _ _ hf dX9_deep_28 rfl
    · have hf := gx_if c_11 hf
      refine j_iinc (v := v2 + 1) (L' := [(2, .int (v2 + 1)), (0, .ref (ad 0)), (3, .int v3)]) (pc := 14) g 1 dX9_deep_14 rfl rfl (Nat.le_of_ble_eq_true rfl) rfl ?_
      refine j_aload_n (pc := 17) g 1 dX9_deep_17 rfl ?_
      refine j_iload_n (pc := 18) g 2 dX9_deep_18 rfl ?_
      refine j_iconst (v := 4) (pc := 19) g dX9_deep_19 (by decide) ?_
      obtain ⟨r20, h_20, hf⟩ := gx_bs hf
      refine m9c_X9_of (pc := 20) g ⟨Nat.le_of_ble_eq_true rfl, Nat.le_of_ble_eq_true rfl⟩ ⟨Nat.zero_le _, Nat.zero_le _⟩ (Nat.le_of_ble_eq_true rfl) h_20 dX9_deep_20 ?_
      refine j_istore_n (L' := [(3, .int r20), (2, .int (v2 + 1)), (0, .ref (ad 0))]) (pc := 23) g dX9_deep_23 rfl (Nat.le_of_ble_eq_true rfl) rfl ?_
      refine j_goto (tgt := 9) (pc := 24) g dX9_deep_24 (by decide) ?_
      refine j_sub (pc := 9) g [2, 1, 0] rfl ?_
      exact ih (v2 + 1) r20 hf
set_option maxRecDepth 100000 in
set_option maxHeartbeats 4000000 in
theorem cX9_deep_ {D : va_G} {t : Nat → ClassId} {E : gx_E} {l : Launch} {ad : Nat → Nat} {rs : va_W} {σ : OS} {p1 : Int32} {q : Int32} (hf : fX9_deep σ p1 = some q) : gx_C D t E l yX9_deep cX9_deep 4 (some .int) 1 22 [.ref (ad 0), .int p1] (mC ad t σ ++ rs) (mC ad t σ ++ rs) (some (.int q)) := by
  refine gx_intro_i (by decide) (Nat.le_of_ble_eq_true rfl) (fun J g hE0 => ?_)
  have hE : ∀ (v : Int32) (pc : Nat) (L : List (Nat × Value)), some v = some q → decode cX9_deep pc = .ok (.ireturn, 1) → narrow .int (.int v) = .int v → J 0 0 (mC ad t σ ++ rs) pc L [.int v] := fun v pc L h h1 h2 => by cases h; exact hE0 pc L h1 h2
  unfold fX9_deep at hf
  show J 0 0 (mC ad t σ ++ rs) 0 [(0, .ref (ad 0)), (1, .int p1)] []
  refine j_iconst (v := 0) (pc := 0) g dX9_deep_0 (by decide) ?_
  refine j_istore_n (L' := [(2, .int (0 : Int32)), (0, .ref (ad 0)), (1, .int p1)]) (pc := 1) g dX9_deep_1 rfl (Nat.le_of_ble_eq_true rfl) rfl ?_
  refine j_aload_n (pc := 2) g 1 dX9_deep_2 rfl ?_
  refine j_iload_n (pc := 3) g 2 dX9_deep_3 rfl ?_
  refine j_iconst (v := 4) (pc := 4) g dX9_deep_4 (by decide) ?_
  obtain ⟨r5, h_5, hf⟩ := gx_bs hf
  refine m9c_X9_of (pc := 5) g ⟨Nat.le_of_ble_eq_true rfl, Nat.le_of_ble_eq_true rfl⟩ ⟨Nat.zero_le _, Nat.zero_le _⟩ (Nat.le_of_ble_eq_true rfl) h_5 dX9_deep_5 ?_
  refine j_istore_n (L' := [(3, .int r5), (2, .int (0 : Int32)), (0, .ref (ad 0)), (1, .int p1)]) (pc := 8) g dX9_deep_8 rfl (Nat.le_of_ble_eq_true rfl) rfl ?_
  refine j_sub (pc := 9) g [2, 1, 0] rfl ?_
  exact tX9_deep_9 g hE 2000 (0 : Int32) r5 hf

set_option maxRecDepth 100000 in
set_option maxHeartbeats 4000000 in
theorem tX9_under_4 {D : va_G} {t : Nat → ClassId} {E : gx_E} {l : Launch} {J : gx_J} {ad : Nat → Nat} {rs : va_W} {σ : OS} {q : Int32} (g : gx_G D t E l ({ frames := 1, cells := 0, slots := 0, locals := 22 }) cX9_under RX9 4 J) (hE : ∀ (v : Int32) (pc : Nat) (L : List (Nat × Value)), some v = some q → decode cX9_under pc = .ok (.ireturn, 1) → narrow .int (.int v) = .int v → J 0 0 (mC ad t σ ++ rs) pc L [.int v])  : ∀ (n : Nat) (v1 : Int32) (v2 : Int32) (v3 : Int32), fX9_under_4 σ n v1 v2 v3 = some q → J 0 0 (mC ad t σ ++ rs) 4 [(0, .ref (ad 0)), (1, .int v1), (2, .int v2), (3, .int v3)] [] := by
  intro n
  induction n with
  | zero => intro v1 v2 v3 hf; cases hf
  | succ n ih =>
    intro v1 v2 v3 hf
    replace hf := (fX9_under_4_s σ n v1 v2 v3).symm.trans hf
    refine j_iload_n (pc := 4) g 3 dX9_under_4 rfl ?_
    refine j_aload_n (pc := 5) g 0 dX9_under_5 rfl ?_
    refine m9g_1 (pc := 6) g dX9_under_6 ?_
    refine j_iconst (v := 0) (pc := 9) g dX9_under_9 (by decide) ?_
    obtain ⟨h_10, hf⟩ := gx_ck hf
    refine m9l_1 (pc := 10) g h_10 dX9_under_10 ?_
    refine j_icmp_ge (tgt := 48) (pc := 11) g dX9_under_11 (by decide) (fun c_11 => ?_) (fun c_11 => ?_)
    · have hf := gx_it c_11 hf
      refine j_iload_n (pc := 48) g 2 dX9_under_48 rfl ?_
      exact hE _ _ _ hf dX9_under_49 rfl
    · have hf := gx_if c_11 hf
      refine j_iload_n (pc := 14) g 2 dX9_under_14 rfl ?_
      refine j_aload_n (pc := 15) g 0 dX9_under_15 rfl ?_
      refine j_iload_n (pc := 16) g 3 dX9_under_16 rfl ?_
      refine j_iconst (v := 0) (pc := 17) g dX9_under_17 (by decide) ?_
      obtain ⟨r18, h_18, hf⟩ := gx_bs hf
      refine m9c_X9_of (pc := 18) g ⟨Nat.le_of_ble_eq_true rfl, Nat.le_of_ble_eq_true rfl⟩ ⟨Nat.zero_le _, Nat.zero_le _⟩ (Nat.le_of_ble_eq_true rfl) h_18 dX9_under_18 ?_
      refine j_iconst (v := 1) (pc := 21) g dX9_under_21 (by decide) ?_
      refine j_icmp_ne (tgt := 39) (pc := 22) g dX9_under_22 (by decide) (fun c_22 => ?_) (fun c_22 => ?_)
      · have hf := gx_if c_22 hf
        refine j_iconst (v := 0) (pc := 39) g dX9_under_39 (by decide) ?_
        refine j_iadd (pc := 40) g dX9_under_40 ?_
        refine j_istore_n (L' := [(2, .int (v2 + (0 : Int32))), (0, .ref (ad 0)), (1, .int v1), (3, .int v3)]) (pc := 41) g dX9_under_41 rfl (Nat.le_of_ble_eq_true rfl) rfl ?_
        refine j_iinc (v := v3 + 1) (L' := [(3, .int (v3 + 1)), (2, .int (v2 + (0 : Int32))), (0, .ref (ad 0)), (1, .int v1)]) (pc := 42) g 3 dX9_under_42 rfl rfl (Nat.le_of_ble_eq_true rfl) rfl ?_
        refine j_goto (tgt := 4) (pc := 45) g dX9_under_45 (by decide) ?_
        refine j_sub (pc := 4) g [2, 3, 1, 0] rfl ?_
        exact ih v1 (v2 + (0 : Int32)) (v3 + 1) hf
      · have hf := gx_it c_22 hf
        refine j_aload_n (pc := 25) g 0 dX9_under_25 rfl ?_
        refine j_iload_n (pc := 26) g 3 dX9_under_26 rfl ?_
        refine j_iconst (v := 4) (pc := 27) g dX9_under_27 (by decide) ?_
        obtain ⟨r28, h_28, hf⟩ := gx_bs hf
        refine m9c_X9_of (pc := 28) g ⟨Nat.le_of_ble_eq_true rfl, Nat.le_of_ble_eq_true rfl⟩ ⟨Nat.zero_le _, Nat.zero_le _⟩ (Nat.le_of_ble_eq_true rfl) h_28 dX9_under_28 ?_
        refine j_iload_n (pc := 31) g 1 dX9_under_31 rfl ?_
        refine j_icmp_ne (tgt := 39) (pc := 32) g dX9_under_32 (by decide) (fun c_32 => ?_) (fun c_32 => ?_)
        · have hf := gx_if c_32 hf
          refine j_iconst (v := 0) (pc := 39) g dX9_under_39 (by decide) ?_
          refine j_iadd (pc := 40) g dX9_under_40 ?_
          refine j_istore_n (L' := [(2, .int (v2 + (0 : Int32))), (0, .ref (ad 0)), (1, .int v1), (3, .int v3)]) (pc := 41) g dX9_under_41 rfl (Nat.le_of_ble_eq_true rfl) rfl ?_
          refine j_iinc (v := v3 + 1) (L' := [(3, .int (v3 + 1)), (2, .int (v2 + (0 : Int32))), (0, .ref (ad 0)), (1, .int v1)]) (pc := 42) g 3 dX9_under_42 rfl rfl (Nat.le_of_ble_eq_true rfl) rfl ?_
          refine j_goto (tgt := 4) (pc := 45) g dX9_under_45 (by decide) ?_
          refine j_sub (pc := 4) g [2, 3, 1, 0] rfl ?_
          exact ih v1 (v2 + (0 : Int32)) (v3 + 1) hf
        · have hf := gx_it c_32 hf
          refine j_iconst (v := 1) (pc := 35) g dX9_under_35 (by decide) ?_
          refine j_goto (tgt := 40) (pc := 36) g dX9_under_36 (by decide) ?_
          refine j_iadd (pc := 40) g dX9_under_40 ?_
          refine j_istore_n (L' := [(2, .int (v2 + (1 : Int32))), (0, .ref (ad 0)), (1, .int v1), (3, .int v3)]) (pc := 41) g dX9_under_41 rfl (Nat.le_of_ble_eq_true rfl) rfl ?_
          refine j_iinc (v := v3 + 1) (L' := [(3, .int (v3 + 1)), (2, .int (v2 + (1 : Int32))), (0, .ref (ad 0)), (1, .int v1)]) (pc := 42) g 3 dX9_under_42 rfl rfl (Nat.le_of_ble_eq_true rfl) rfl ?_
          refine j_goto (tgt := 4) (pc := 45) g dX9_under_45 (by decide) ?_
          refine j_sub (pc := 4) g [2, 3, 1, 0] rfl ?_
          exact ih v1 (v2 + (1 : Int32)) (v3 + 1) hf
set_option maxRecDepth 100000 in
set_option maxHeartbeats 4000000 in
theorem cX9_under_ {D : va_G} {t : Nat → ClassId} {E : gx_E} {l : Launch} {ad : Nat → Nat} {rs : va_W} {σ : OS} {p1 : Int32} {q : Int32} (hf : fX9_under σ p1 = some q) : gx_C D t E l yX9_under cX9_under 4 (some .int) 1 22 [.ref (ad 0), .int p1] (mC ad t σ ++ rs) (mC ad t σ ++ rs) (some (.int q)) := by
  refine gx_intro_i (by decide) (Nat.le_of_ble_eq_true rfl) (fun J g hE0 => ?_)
  have hE : ∀ (v : Int32) (pc : Nat) (L : List (Nat × Value)), some v = some q → decode cX9_under pc = .ok (.ireturn, 1) → narrow .int (.int v) = .int v → J 0 0 (mC ad t σ ++ rs) pc L [.int v] := fun v pc L h h1 h2 => by cases h; exact hE0 pc L h1 h2
  unfold fX9_under at hf
  show J 0 0 (mC ad t σ ++ rs) 0 [(0, .ref (ad 0)), (1, .int p1)] []
  refine j_iconst (v := 0) (pc := 0) g dX9_under_0 (by decide) ?_
  refine j_istore_n (L' := [(2, .int (0 : Int32)), (0, .ref (ad 0)), (1, .int p1)]) (pc := 1) g dX9_under_1 rfl (Nat.le_of_ble_eq_true rfl) rfl ?_
  refine j_iconst (v := 0) (pc := 2) g dX9_under_2 (by decide) ?_
  refine j_istore_n (L' := [(3, .int (0 : Int32)), (2, .int (0 : Int32)), (0, .ref (ad 0)), (1, .int p1)]) (pc := 3) g dX9_under_3 rfl (Nat.le_of_ble_eq_true rfl) rfl ?_
  refine j_sub (pc := 4) g [2, 3, 1, 0] rfl ?_
  exact tX9_under_4 g hE 2000 p1 (0 : Int32) (0 : Int32) hf
theorem m9c_X9_above {D : va_G} {t : Nat → ClassId} {E : gx_E} {l : Launch} {R : Room} {cc : ByteArray} {nL : Nat} {J : gx_J} {ad : Nat → Nat} {rs : va_W} {k n pc : Nat} {L : List (Nat × Value)} {rest : List Value} (g : gx_G D t E l R cc RX9 nL J) {σ : OS} {x0 : Int32} {x1 : Int32} {q : Int32} (hR : 1 + 1 ≤ R.frames ∧ 8 + (4 + 11) + 22 ≤ R.locals) (hkn : k ≤ R.cells ∧ n ≤ R.slots) (hcat : (rest.map fun v => v.category).sum ≤ 8) (hf : fX9_above σ x0 x1 = some q) (hd : decode cc pc = .ok (.invokevirtual 66, 3)) (kk : J k n (mC ad t σ ++ rs) (pc + 3) L (.int q :: rest)) : J k n (mC ad t σ ++ rs) pc L (.int x1 :: .int x0 :: .ref (ad 0) :: rest) := j_callVi (na := 2) (As := [.int x0, .int x1]) (q0 := 0) (ci := 10) g (cX9_above_  hf) q_i_X9_above q_s_X9_above rfl rfl rfl q_c_X9_above q_l_X9_66 q_n_X9 (by decide +kernel) rfl hR hkn hcat (.refl _) (.refl _) hd kk rfl
set_option maxRecDepth 100000 in
set_option maxHeartbeats 4000000 in
theorem tX9_commanded_4 {D : va_G} {t : Nat → ClassId} {E : gx_E} {l : Launch} {J : gx_J} {ad : Nat → Nat} {rs : va_W} {σ : OS} {q : Int32} (g : gx_G D t E l ({ frames := 2, cells := 0, slots := 0, locals := 45 }) cX9_commanded RX9 4 J) (hE : ∀ (v : Int32) (pc : Nat) (L : List (Nat × Value)), some v = some q → decode cX9_commanded pc = .ok (.ireturn, 1) → narrow .int (.int v) = .int v → J 0 0 (mC ad t σ ++ rs) pc L [.int v])  : ∀ (n : Nat) (v1 : Int32) (v2 : Int32) (v3 : Int32), fX9_commanded_4 σ n v1 v2 v3 = some q → J 0 0 (mC ad t σ ++ rs) 4 [(0, .ref (ad 0)), (1, .int v1), (2, .int v2), (3, .int v3)] [] := by
  intro n
  induction n with
  | zero => intro v1 v2 v3 hf; cases hf
  | succ n ih =>
    intro v1 v2 v3 hf
    replace hf := (fX9_commanded_4_s σ n v1 v2 v3).symm.trans hf
    refine j_iload_n (pc := 4) g 3 dX9_commanded_4 rfl ?_
    refine j_aload_n (pc := 5) g 0 dX9_commanded_5 rfl ?_
    refine m9g_1 (pc := 6) g dX9_commanded_6 ?_
    refine j_iconst (v := 0) (pc := 9) g dX9_commanded_9 (by decide) ?_
    obtain ⟨h_10, hf⟩ := gx_ck hf
    refine m9l_1 (pc := 10) g h_10 dX9_commanded_10 ?_
    refine j_icmp_ge (tgt := 47) (pc := 11) g dX9_commanded_11 (by decide) (fun c_11 => ?_) (fun c_11 => ?_)
    · have hf := gx_it c_11 hf
      refine j_iload_n (pc := 47) g 2 dX9_commanded_47 rfl ?_
      exact hE _ _ _ hf dX9_commanded_48 rfl
    · have hf := gx_if c_11 hf
      refine j_iload_n (pc := 14) g 2 dX9_commanded_14 rfl ?_
      refine j_aload_n (pc := 15) g 0 dX9_commanded_15 rfl ?_
      refine j_iload_n (pc := 16) g 3 dX9_commanded_16 rfl ?_
      refine j_iconst (v := 0) (pc := 17) g dX9_commanded_17 (by decide) ?_
      obtain ⟨r18, h_18, hf⟩ := gx_bs hf
      refine m9c_X9_of (pc := 18) g ⟨Nat.le_of_ble_eq_true rfl, Nat.le_of_ble_eq_true rfl⟩ ⟨Nat.zero_le _, Nat.zero_le _⟩ (Nat.le_of_ble_eq_true rfl) h_18 dX9_commanded_18 ?_
      refine j_iconst (v := 1) (pc := 21) g dX9_commanded_21 (by decide) ?_
      refine j_icmp_ne (tgt := 38) (pc := 22) g dX9_commanded_22 (by decide) (fun c_22 => ?_) (fun c_22 => ?_)
      · have hf := gx_if c_22 hf
        refine j_iconst (v := 0) (pc := 38) g dX9_commanded_38 (by decide) ?_
        refine j_iadd (pc := 39) g dX9_commanded_39 ?_
        refine j_istore_n (L' := [(2, .int (v2 + (0 : Int32))), (0, .ref (ad 0)), (1, .int v1), (3, .int v3)]) (pc := 40) g dX9_commanded_40 rfl (Nat.le_of_ble_eq_true rfl) rfl ?_
        refine j_iinc (v := v3 + 1) (L' := [(3, .int (v3 + 1)), (2, .int (v2 + (0 : Int32))), (0, .ref (ad 0)), (1, .int v1)]) (pc := 41) g 3 dX9_commanded_41 rfl rfl (Nat.le_of_ble_eq_true rfl) rfl ?_
        refine j_goto (tgt := 4) (pc := 44) g dX9_commanded_44 (by decide) ?_
        refine j_sub (pc := 4) g [2, 3, 1, 0] rfl ?_
        exact ih v1 (v2 + (0 : Int32)) (v3 + 1) hf
      · have hf := gx_it c_22 hf
        refine j_aload_n (pc := 25) g 0 dX9_commanded_25 rfl ?_
        refine j_iload_n (pc := 26) g 1 dX9_commanded_26 rfl ?_
        refine j_iload_n (pc := 27) g 3 dX9_commanded_27 rfl ?_
        obtain ⟨r28, h_28, hf⟩ := gx_bs hf
        refine m9c_X9_above (pc := 28) g ⟨Nat.le_of_ble_eq_true rfl, Nat.le_of_ble_eq_true rfl⟩ ⟨Nat.zero_le _, Nat.zero_le _⟩ (Nat.le_of_ble_eq_true rfl) h_28 dX9_commanded_28 ?_
        refine j_if_eq (tgt := 38) (pc := 31) g dX9_commanded_31 (by decide) (fun c_31 => ?_) (fun c_31 => ?_)
        · have hf := gx_it c_31 hf
          refine j_iconst (v := 0) (pc := 38) g dX9_commanded_38 (by decide) ?_
          refine j_iadd (pc := 39) g dX9_commanded_39 ?_
          refine j_istore_n (L' := [(2, .int (v2 + (0 : Int32))), (0, .ref (ad 0)), (1, .int v1), (3, .int v3)]) (pc := 40) g dX9_commanded_40 rfl (Nat.le_of_ble_eq_true rfl) rfl ?_
          refine j_iinc (v := v3 + 1) (L' := [(3, .int (v3 + 1)), (2, .int (v2 + (0 : Int32))), (0, .ref (ad 0)), (1, .int v1)]) (pc := 41) g 3 dX9_commanded_41 rfl rfl (Nat.le_of_ble_eq_true rfl) rfl ?_
          refine j_goto (tgt := 4) (pc := 44) g dX9_commanded_44 (by decide) ?_
          refine j_sub (pc := 4) g [2, 3, 1, 0] rfl ?_
          exact ih v1 (v2 + (0 : Int32)) (v3 + 1) hf
        · have hf := gx_if c_31 hf
          refine j_iconst (v := 1) (pc := 34) g dX9_commanded_34 (by decide) ?_
          refine j_goto (tgt := 39) (pc := 35) g dX9_commanded_35 (by decide) ?_
          refine j_iadd (pc := 39) g dX9_commanded_39 ?_
          refine j_istore_n (L' := [(2, .int (v2 + (1 : Int32))), (0, .ref (ad 0)), (1, .int v1), (3, .int v3)]) (pc := 40) g dX9_commanded_40 rfl (Nat.le_of_ble_eq_true rfl) rfl ?_
          refine j_iinc (v := v3 + 1) (L' := [(3, .int (v3 + 1)), (2, .int (v2 + (1 : Int32))), (0, .ref (ad 0)), (1, .int v1)]) (pc := 41) g 3 dX9_commanded_41 rfl rfl (Nat.le_of_ble_eq_true rfl) rfl ?_
          refine j_goto (tgt := 4) (pc := 44) g dX9_commanded_44 (by decide) ?_
          refine j_sub (pc := 4) g [2, 3, 1, 0] rfl ?_
          exact ih v1 (v2 + (1 : Int32)) (v3 + 1) hf
set_option maxRecDepth 100000 in
set_option maxHeartbeats 4000000 in
theorem cX9_commanded_ {D : va_G} {t : Nat → ClassId} {E : gx_E} {l : Launch} {ad : Nat → Nat} {rs : va_W} {σ : OS} {p1 : Int32} {q : Int32} (hf : fX9_commanded σ p1 = some q) : gx_C D t E l yX9_commanded cX9_commanded 4 (some .int) 2 45 [.ref (ad 0), .int p1] (mC ad t σ ++ rs) (mC ad t σ ++ rs) (some (.int q)) := by
  refine gx_intro_i (by decide) (Nat.le_of_ble_eq_true rfl) (fun J g hE0 => ?_)
  have hE : ∀ (v : Int32) (pc : Nat) (L : List (Nat × Value)), some v = some q → decode cX9_commanded pc = .ok (.ireturn, 1) → narrow .int (.int v) = .int v → J 0 0 (mC ad t σ ++ rs) pc L [.int v] := fun v pc L h h1 h2 => by cases h; exact hE0 pc L h1 h2
  unfold fX9_commanded at hf
  show J 0 0 (mC ad t σ ++ rs) 0 [(0, .ref (ad 0)), (1, .int p1)] []
  refine j_iconst (v := 1) (pc := 0) g dX9_commanded_0 (by decide) ?_
  refine j_istore_n (L' := [(2, .int (1 : Int32)), (0, .ref (ad 0)), (1, .int p1)]) (pc := 1) g dX9_commanded_1 rfl (Nat.le_of_ble_eq_true rfl) rfl ?_
  refine j_iconst (v := 0) (pc := 2) g dX9_commanded_2 (by decide) ?_
  refine j_istore_n (L' := [(3, .int (0 : Int32)), (2, .int (1 : Int32)), (0, .ref (ad 0)), (1, .int p1)]) (pc := 3) g dX9_commanded_3 rfl (Nat.le_of_ble_eq_true rfl) rfl ?_
  refine j_sub (pc := 4) g [2, 3, 1, 0] rfl ?_
  exact tX9_commanded_4 g hE 2000 p1 (1 : Int32) (0 : Int32) hf

set_option maxRecDepth 100000 in
set_option maxHeartbeats 4000000 in
theorem tX9_next_2 {D : va_G} {t : Nat → ClassId} {E : gx_E} {l : Launch} {J : gx_J} {ad : Nat → Nat} {rs : va_W} {σ : OS} {q : Int32} (g : gx_G D t E l ({ frames := 1, cells := 0, slots := 0, locals := 22 }) cX9_next RX9 4 J) (hE : ∀ (v : Int32) (pc : Nat) (L : List (Nat × Value)), some v = some q → decode cX9_next pc = .ok (.ireturn, 1) → narrow .int (.int v) = .int v → J 0 0 (mC ad t σ ++ rs) pc L [.int v])  : ∀ (n : Nat) (v1 : Int32) (v3 : Int32), fX9_next_2 σ n v1 v3 = some q → J 0 0 (mC ad t σ ++ rs) 2 [(0, .ref (ad 0)), (1, .int v1), (3, .int v3)] [] := by
  intro n
  induction n with
  | zero => intro v1 v3 hf; cases hf
  | succ n ih =>
    intro v1 v3 hf
    replace hf := (fX9_next_2_s σ n v1 v3).symm.trans hf
    refine j_aload_n (pc := 2) g 0 dX9_next_2 rfl ?_
    refine j_iload_n (pc := 3) g 2 dX9_next_3 rfl ?_
    refine j_iconst (v := 4) (pc := 4) g dX9_next_4 (by decide) ?_
    obtain ⟨r5, h_5, hf⟩ := gx_bs hf
    refine m9c_X9_of (pc := 5) g ⟨Nat.le_of_ble_eq_true rfl, Nat.le_of_ble_eq_true rfl⟩ ⟨Nat.zero_le _, Nat.zero_le _⟩ (Nat.le_of_ble_eq_true rfl) h_5 dX9_next_5 ?_
    refine j_iload_n (pc := 8) g 1 dX9_next_8 rfl ?_
    refine j_icmp_eq (tgt := 22) (pc := 9) g dX9_next_9 (by decide) (fun c_9 => ?_) (fun c_9 => ?_)
    · have hf := gx_it c_9 hf
      refine j_iload_n (pc := 22) g 2 dX9_next_22 rfl ?_
      exact hE _ _ _ hf dX9_next_23 rfl
    · have hf := gx_if c_9 hf
      refine j_aload_n (pc := 12) g 0 dX9_next_12 rfl ?_
      refine j_iload_n (pc := 13) g 2 dX9_next_13 rfl ?_
      refine j_iconst (v := 4) (pc := 14) g dX9_next_14 (by decide) ?_
      obtain ⟨r15, h_15, hf⟩ := gx_bs hf
      refine m9c_X9_of (pc := 15) g ⟨Nat.le_of_ble_eq_true rfl, Nat.le_of_ble_eq_true rfl⟩ ⟨Nat.zero_le _, Nat.zero_le _⟩ (Nat.le_of_ble_eq_true rfl) h_15 dX9_next_15 ?_
      refine j_istore_n (L' := [(3, .int r15), (0, .ref (ad 0)), (1, .int v1)]) (pc := 18) g dX9_next_18 rfl (Nat.le_of_ble_eq_true rfl) rfl ?_
      refine j_goto (tgt := 2) (pc := 19) g dX9_next_19 (by decide) ?_
      refine j_sub (pc := 2) g [1, 2, 0] rfl ?_
      exact ih v1 r15 hf
set_option maxRecDepth 100000 in
set_option maxHeartbeats 4000000 in
theorem cX9_next_ {D : va_G} {t : Nat → ClassId} {E : gx_E} {l : Launch} {ad : Nat → Nat} {rs : va_W} {σ : OS} {p1 : Int32} {p2 : Int32} {q : Int32} (hf : fX9_next σ p1 p2 = some q) : gx_C D t E l yX9_next cX9_next 4 (some .int) 1 22 [.ref (ad 0), .int p1, .int p2] (mC ad t σ ++ rs) (mC ad t σ ++ rs) (some (.int q)) := by
  refine gx_intro_i (by decide) (Nat.le_of_ble_eq_true rfl) (fun J g hE0 => ?_)
  have hE : ∀ (v : Int32) (pc : Nat) (L : List (Nat × Value)), some v = some q → decode cX9_next pc = .ok (.ireturn, 1) → narrow .int (.int v) = .int v → J 0 0 (mC ad t σ ++ rs) pc L [.int v] := fun v pc L h h1 h2 => by cases h; exact hE0 pc L h1 h2
  unfold fX9_next at hf
  show J 0 0 (mC ad t σ ++ rs) 0 [(0, .ref (ad 0)), (1, .int p1), (2, .int p2)] []
  refine j_iload_n (pc := 0) g 2 dX9_next_0 rfl ?_
  refine j_istore_n (L' := [(3, .int p2), (0, .ref (ad 0)), (1, .int p1), (2, .int p2)]) (pc := 1) g dX9_next_1 rfl (Nat.le_of_ble_eq_true rfl) rfl ?_
  refine j_sub (pc := 2) g [1, 2, 0] rfl ?_
  exact tX9_next_2 g hE 2000 p1 p2 hf

set_option maxRecDepth 100000 in
set_option maxHeartbeats 4000000 in
theorem cX9_order_ {D : va_G} {t : Nat → ClassId} {E : gx_E} {l : Launch} {ad : Nat → Nat} {rs : va_W} {σ : OS} {p1 : Int32} {p2 : Int32} {q : Int32} (hf : fX9_order σ p1 p2 = some q) : gx_C D t E l yX9_order cX9_order 3 (some .int) 0 0 [.ref (ad 0), .int p1, .int p2] (mC ad t σ ++ rs) (mC ad t σ ++ rs) (some (.int q)) := by
  refine gx_intro_i (by decide) (Nat.le_of_ble_eq_true rfl) (fun J g hE0 => ?_)
  have hE : ∀ (v : Int32) (pc : Nat) (L : List (Nat × Value)), some v = some q → decode cX9_order pc = .ok (.ireturn, 1) → narrow .int (.int v) = .int v → J 0 0 (mC ad t σ ++ rs) pc L [.int v] := fun v pc L h h1 h2 => by cases h; exact hE0 pc L h1 h2
  unfold fX9_order at hf
  show J 0 0 (mC ad t σ ++ rs) 0 [(0, .ref (ad 0)), (1, .int p1), (2, .int p2)] []
  refine j_aload_n (pc := 0) g 0 dX9_order_0 rfl ?_
  refine m9g_1 (pc := 1) g dX9_order_1 ?_
  refine j_bipush (v := 67) (pc := 4) g dX9_order_4 (by decide) ?_
  refine j_iconst (v := 4) (pc := 6) g dX9_order_6 (by decide) ?_
  refine j_iload_n (pc := 7) g 1 dX9_order_7 rfl ?_
  refine j_imul (pc := 8) g dX9_order_8 ?_
  refine j_iadd (pc := 9) g dX9_order_9 ?_
  refine j_iload_n (pc := 10) g 2 dX9_order_10 rfl ?_
  refine j_iadd (pc := 11) g dX9_order_11 ?_
  obtain ⟨h_12, hf⟩ := gx_ck hf
  refine m9l_1 (pc := 12) g h_12 dX9_order_12 ?_
  exact hE _ _ _ hf dX9_order_13 rfl

set_option maxRecDepth 100000 in
set_option maxHeartbeats 4000000 in
theorem tX9_drops_48 {D : va_G} {t : Nat → ClassId} {E : gx_E} {l : Launch} {J : gx_J} {ad : Nat → Nat} {rs : va_W} {q : OS} (g : gx_G D t E l ({ frames := 0, cells := 0, slots := 0, locals := 0 }) cX9_drops RX9 4 J) (hE : ∀ (σ : OS) (pc : Nat) (L : List (Nat × Value)), some σ = some q → decode cX9_drops pc = .ok (.return_, 1) → J 0 0 (mC ad t σ ++ rs) pc L [])  : ∀ (n : Nat) (σ : OS) (v2 : Int32) (v3 : Int32), fX9_drops_48 n σ v2 v3 = some q → J 0 0 (mC ad t σ ++ rs) 48 [(0, .ref (ad 0)), (2, .int v2), (3, .int v3)] [] := by
  intro n
  induction n with
  | zero => intro σ v2 v3 hf; cases hf
  | succ n ih =>
    intro σ v2 v3 hf
    replace hf := (fX9_drops_48_s n σ v2 v3).symm.trans hf
    refine j_iload_n (pc := 48) g 2 dX9_drops_48 rfl ?_
    refine j_iconst (v := 4) (pc := 49) g dX9_drops_49 (by decide) ?_
    refine j_icmp_ge (tgt := 73) (pc := 50) g dX9_drops_50 (by decide) (fun c_50 => ?_) (fun c_50 => ?_)
    · have hf := gx_it c_50 hf
      refine j_aload_n (pc := 73) g 0 dX9_drops_73 rfl ?_
      refine m9g_1 (pc := 74) g dX9_drops_74 ?_
      refine j_iconst (v := 5) (pc := 77) g dX9_drops_77 (by decide) ?_
      refine j_iload_n (pc := 78) g 1 dX9_drops_78 rfl ?_
      obtain ⟨h_79, hf⟩ := gx_ck hf
      refine m9s_1 (pc := 79) g h_79 dX9_drops_79 ?_
      exact hE _ _ _ hf dX9_drops_80
    · have hf := gx_if c_50 hf
      refine j_aload_n (pc := 53) g 0 dX9_drops_53 rfl ?_
      refine m9g_1 (pc := 54) g dX9_drops_54 ?_
      refine j_bipush (v := 67) (pc := 57) g dX9_drops_57 (by decide) ?_
      refine j_iconst (v := 4) (pc := 59) g dX9_drops_59 (by decide) ?_
      refine j_iload_n (pc := 60) g 1 dX9_drops_60 rfl ?_
      refine j_imul (pc := 61) g dX9_drops_61 ?_
      refine j_iadd (pc := 62) g dX9_drops_62 ?_
      refine j_iload_n (pc := 63) g 2 dX9_drops_63 rfl ?_
      refine j_iadd (pc := 64) g dX9_drops_64 ?_
      refine j_iconst (v := 0) (pc := 65) g dX9_drops_65 (by decide) ?_
      obtain ⟨h_66, hf⟩ := gx_ck hf
      refine m9s_1 (pc := 66) g h_66 dX9_drops_66 ?_
      refine j_iinc (v := v3 + 1) (L' := [(3, .int (v3 + 1)), (0, .ref (ad 0)), (2, .int v2)]) (pc := 67) g 2 dX9_drops_67 rfl rfl (Nat.le_of_ble_eq_true rfl) rfl ?_
      refine j_goto (tgt := 48) (pc := 70) g dX9_drops_70 (by decide) ?_
      refine j_sub (pc := 48) g [1, 2, 0] rfl ?_
      exact ih (os_sa σ 1 (((67 : Int32) + ((4 : Int32) * v2)) + v3).toNatClampNeg (0 : Int32)) v2 (v3 + 1) hf
set_option maxRecDepth 100000 in
set_option maxHeartbeats 4000000 in
theorem tX9_drops_13 {D : va_G} {t : Nat → ClassId} {E : gx_E} {l : Launch} {J : gx_J} {ad : Nat → Nat} {rs : va_W} {q : OS} (g : gx_G D t E l ({ frames := 0, cells := 0, slots := 0, locals := 0 }) cX9_drops RX9 4 J) (hE : ∀ (σ : OS) (pc : Nat) (L : List (Nat × Value)), some σ = some q → decode cX9_drops pc = .ok (.return_, 1) → J 0 0 (mC ad t σ ++ rs) pc L [])  : ∀ (n : Nat) (σ : OS) (v2 : Int32) (v3 : Int32), fX9_drops_13 n σ v2 v3 = some q → J 0 0 (mC ad t σ ++ rs) 13 [(0, .ref (ad 0)), (2, .int v2), (3, .int v3)] [] := by
  intro n
  induction n with
  | zero => intro σ v2 v3 hf; cases hf
  | succ n ih =>
    intro σ v2 v3 hf
    replace hf := (fX9_drops_13_s n σ v2 v3).symm.trans hf
    refine j_iload_n (pc := 13) g 2 dX9_drops_13 rfl ?_
    refine j_iconst (v := 4) (pc := 14) g dX9_drops_14 (by decide) ?_
    refine j_iload_n (pc := 15) g 1 dX9_drops_15 rfl ?_
    refine j_imul (pc := 16) g dX9_drops_16 ?_
    refine j_icmp_ge (tgt := 46) (pc := 17) g dX9_drops_17 (by decide) (fun c_17 => ?_) (fun c_17 => ?_)
    · have hf := gx_it c_17 hf
      refine j_iconst (v := 0) (pc := 46) g dX9_drops_46 (by decide) ?_
      refine j_istore_n (L' := [(3, .int (0 : Int32)), (0, .ref (ad 0)), (2, .int v2)]) (pc := 47) g dX9_drops_47 rfl (Nat.le_of_ble_eq_true rfl) rfl ?_
      refine j_sub (pc := 48) g [1, 2, 0] rfl ?_
      exact tX9_drops_48 g hE 2000 σ v2 (0 : Int32) hf
    · have hf := gx_if c_17 hf
      refine j_aload_n (pc := 20) g 0 dX9_drops_20 rfl ?_
      refine m9g_1 (pc := 21) g dX9_drops_21 ?_
      refine j_bipush (v := 67) (pc := 24) g dX9_drops_24 (by decide) ?_
      refine j_iload_n (pc := 26) g 2 dX9_drops_26 rfl ?_
      refine j_iadd (pc := 27) g dX9_drops_27 ?_
      refine j_aload_n (pc := 28) g 0 dX9_drops_28 rfl ?_
      refine m9g_1 (pc := 29) g dX9_drops_29 ?_
      refine j_bipush (v := 67) (pc := 32) g dX9_drops_32 (by decide) ?_
      refine j_iload_n (pc := 34) g 2 dX9_drops_34 rfl ?_
      refine j_iadd (pc := 35) g dX9_drops_35 ?_
      refine j_iconst (v := 4) (pc := 36) g dX9_drops_36 (by decide) ?_
      refine j_iadd (pc := 37) g dX9_drops_37 ?_
      obtain ⟨h_38, hf⟩ := gx_ck hf
      refine m9l_1 (pc := 38) g h_38 dX9_drops_38 ?_
      obtain ⟨h_39, hf⟩ := gx_ck hf
      refine m9s_1 (pc := 39) g h_39 dX9_drops_39 ?_
      refine j_iinc (v := v3 + 1) (L' := [(3, .int (v3 + 1)), (0, .ref (ad 0)), (2, .int v2)]) (pc := 40) g 2 dX9_drops_40 rfl rfl (Nat.le_of_ble_eq_true rfl) rfl ?_
      refine j_goto (tgt := 13) (pc := 43) g dX9_drops_43 (by decide) ?_
      refine j_sub (pc := 13) g [1, 2, 0] rfl ?_
      exact ih (os_sa σ 1 ((67 : Int32) + v3).toNatClampNeg (os_a σ 1 (((67 : Int32) + v3) + (4 : Int32)).toNatClampNeg)) v2 (v3 + 1) hf
set_option maxRecDepth 100000 in
set_option maxHeartbeats 4000000 in
theorem cX9_drops_ {D : va_G} {t : Nat → ClassId} {E : gx_E} {l : Launch} {ad : Nat → Nat} {rs : va_W} {σ : OS} {p1 : Int32} {q : OS} (hf : fX9_drops σ p1 = some q) : gx_C D t E l yX9_drops cX9_drops 4 none 0 0 [.ref (ad 0), .int p1] (mC ad t σ ++ rs) (mC ad t q ++ rs) none := by
  refine gx_intro_v (by decide) (Nat.le_of_ble_eq_true rfl) (fun J g hE0 => ?_)
  have hE : ∀ (σ : OS) (pc : Nat) (L : List (Nat × Value)), some σ = some q → decode cX9_drops pc = .ok (.return_, 1) → J 0 0 (mC ad t σ ++ rs) pc L [] := fun σ pc L h h1 => by cases h; exact hE0 pc L h1
  unfold fX9_drops at hf
  show J 0 0 (mC ad t σ ++ rs) 0 [(0, .ref (ad 0)), (1, .int p1)] []
  refine j_aload_n (pc := 0) g 0 dX9_drops_0 rfl ?_
  refine m9g_1 (pc := 1) g dX9_drops_1 ?_
  refine j_iconst (v := 5) (pc := 4) g dX9_drops_4 (by decide) ?_
  obtain ⟨h_5, hf⟩ := gx_ck hf
  refine m9l_1 (pc := 5) g h_5 dX9_drops_5 ?_
  refine j_iconst (v := 1) (pc := 6) g dX9_drops_6 (by decide) ?_
  refine j_isub (pc := 7) g dX9_drops_7 ?_
  refine j_istore_n (L' := [(2, .int ((os_a σ 1 (5 : Int32).toNatClampNeg) - (1 : Int32))), (0, .ref (ad 0)), (1, .int p1)]) (pc := 8) g dX9_drops_8 rfl (Nat.le_of_ble_eq_true rfl) rfl ?_
  refine j_iconst (v := 4) (pc := 9) g dX9_drops_9 (by decide) ?_
  refine j_iload_n (pc := 10) g 2 dX9_drops_10 rfl ?_
  refine j_imul (pc := 11) g dX9_drops_11 ?_
  refine j_istore_n (L' := [(3, .int ((4 : Int32) * p1)), (2, .int ((os_a σ 1 (5 : Int32).toNatClampNeg) - (1 : Int32))), (0, .ref (ad 0)), (1, .int p1)]) (pc := 12) g dX9_drops_12 rfl (Nat.le_of_ble_eq_true rfl) rfl ?_
  refine j_sub (pc := 13) g [2, 1, 0] rfl ?_
  exact tX9_drops_13 g hE 2000 σ ((os_a σ 1 (5 : Int32).toNatClampNeg) - (1 : Int32)) ((4 : Int32) * p1) hf
theorem m9c_X9_is {D : va_G} {t : Nat → ClassId} {E : gx_E} {l : Launch} {R : Room} {cc : ByteArray} {nL : Nat} {J : gx_J} {ad : Nat → Nat} {rs : va_W} {k n pc : Nat} {L : List (Nat × Value)} {rest : List Value} (g : gx_G D t E l R cc RX9 nL J) {σ : OS} {x0 : Int32} {q : Int32} (hR : 1 + 1 ≤ R.frames ∧ 8 + (2 + 11) + 22 ≤ R.locals) (hkn : k ≤ R.cells ∧ n ≤ R.slots) (hcat : (rest.map fun v => v.category).sum ≤ 8) (hf : fX9_is σ x0 = some q) (hd : decode cc pc = .ok (.invokevirtual 70, 3)) (kk : J k n (mC ad t σ ++ rs) (pc + 3) L (.int q :: rest)) : J k n (mC ad t σ ++ rs) pc L (.int x0 :: .ref (ad 0) :: rest) := j_callVi (na := 1) (As := [.int x0]) (q0 := 0) (ci := 10) g (cX9_is_  hf) q_i_X9_is q_s_X9_is rfl rfl rfl q_c_X9_is q_l_X9_70 q_n_X9 (by decide +kernel) rfl hR hkn hcat (.refl _) (.refl _) hd kk rfl
theorem m9c_X9_sets {D : va_G} {t : Nat → ClassId} {E : gx_E} {l : Launch} {R : Room} {cc : ByteArray} {nL : Nat} {J : gx_J} {ad : Nat → Nat} {rs : va_W} {k n pc : Nat} {L : List (Nat × Value)} {rest : List Value} (g : gx_G D t E l R cc RX9 nL J) {σ : OS} {x0 : Int32} {x1 : Int32} {x2 : Int32} {q : OS} (hR : 0 + 1 ≤ R.frames ∧ 8 + (4 + 11) + 0 ≤ R.locals) (hkn : k ≤ R.cells ∧ n ≤ R.slots) (hcat : (rest.map fun v => v.category).sum ≤ 8) (hf : fX9_sets σ x0 x1 x2 = some q) (hd : decode cc pc = .ok (.invokevirtual 38, 3)) (kk : J k n (mC ad t q ++ rs) (pc + 3) L (rest)) : J k n (mC ad t σ ++ rs) pc L (.int x2 :: .int x1 :: .int x0 :: .ref (ad 0) :: rest) := j_callVv (na := 3) (As := [.int x0, .int x1, .int x2]) (q0 := 0) (ci := 10) g (cX9_sets_  hf) q_i_X9_sets q_s_X9_sets rfl rfl rfl q_c_X9_sets q_l_X9_38 q_n_X9 (by decide +kernel) rfl hR hkn hcat (.refl _) (.refl _) hd kk rfl
theorem m9c_X9_done {D : va_G} {t : Nat → ClassId} {E : gx_E} {l : Launch} {R : Room} {cc : ByteArray} {nL : Nat} {J : gx_J} {ad : Nat → Nat} {rs : va_W} {k n pc : Nat} {L : List (Nat × Value)} {rest : List Value} (g : gx_G D t E l R cc RX9 nL J) {σ : OS} {x0 : Int32} {q : (Int32 × OS)} (hR : 0 + 1 ≤ R.frames ∧ 8 + (2 + 11) + 0 ≤ R.locals) (hkn : k ≤ R.cells ∧ n ≤ R.slots) (hcat : (rest.map fun v => v.category).sum ≤ 8) (hf : fX9_done σ x0 = some q) (hd : decode cc pc = .ok (.invokevirtual 74, 3)) (kk : J k n (mC ad t q.2 ++ rs) (pc + 3) L (.int q.1 :: rest)) : J k n (mC ad t σ ++ rs) pc L (.int x0 :: .ref (ad 0) :: rest) := j_callVi (na := 1) (As := [.int x0]) (q0 := 0) (ci := 10) g (cX9_done_  hf) q_i_X9_done q_s_X9_done rfl rfl rfl q_c_X9_done q_l_X9_74 q_n_X9 (by decide +kernel) rfl hR hkn hcat (.refl _) (.refl _) hd kk rfl
set_option maxRecDepth 100000 in
set_option maxHeartbeats 4000000 in
theorem cX9_adds_ {D : va_G} {t : Nat → ClassId} {E : gx_E} {l : Launch} {ad : Nat → Nat} {rs : va_W} {σ : OS} {p1 : Int32} {p2 : Int32} {p3 : Int32} {q : (Int32 × OS)} (hf : fX9_adds σ p1 p2 p3 = some q) : gx_C D t E l yX9_adds cX9_adds 5 (some .int) 2 43 [.ref (ad 0), .int p1, .int p2, .int p3] (mC ad t σ ++ rs) (mC ad t q.2 ++ rs) (some (.int q.1)) := by
  refine gx_intro_i (by decide) (Nat.le_of_ble_eq_true rfl) (fun J g hE0 => ?_)
  have hE : ∀ (v : Int32) (σ : OS) (pc : Nat) (L : List (Nat × Value)), some (v, σ) = some q → decode cX9_adds pc = .ok (.ireturn, 1) → narrow .int (.int v) = .int v → J 0 0 (mC ad t σ ++ rs) pc L [.int v] := fun v σ pc L h h1 h2 => by cases h; exact hE0 pc L h1 h2
  unfold fX9_adds at hf
  show J 0 0 (mC ad t σ ++ rs) 0 [(0, .ref (ad 0)), (1, .int p1), (2, .int p2), (3, .int p3)] []
  refine j_aload_n (pc := 0) g 0 dX9_adds_0 rfl ?_
  refine j_iload_n (pc := 1) g 1 dX9_adds_1 rfl ?_
  obtain ⟨r2, h_2, hf⟩ := gx_bs hf
  refine m9c_X9_is (pc := 2) g ⟨Nat.le_of_ble_eq_true rfl, Nat.le_of_ble_eq_true rfl⟩ ⟨Nat.zero_le _, Nat.zero_le _⟩ (Nat.le_of_ble_eq_true rfl) h_2 dX9_adds_2 ?_
  refine j_if_ne (tgt := 10) (pc := 5) g dX9_adds_5 (by decide) (fun c_5 => ?_) (fun c_5 => ?_)
  · have hf := gx_if c_5 hf
    refine j_iload_n (pc := 10) g 2 dX9_adds_10 rfl ?_
    refine j_iconst (v := 1) (pc := 11) g dX9_adds_11 (by decide) ?_
    refine j_aload_n (pc := 12) g 0 dX9_adds_12 rfl ?_
    refine j_iload_n (pc := 13) g 1 dX9_adds_13 rfl ?_
    refine j_iconst (v := 1) (pc := 14) g dX9_adds_14 (by decide) ?_
    obtain ⟨r15, h_15, hf⟩ := gx_bs hf
    refine m9c_X9_of (pc := 15) g ⟨Nat.le_of_ble_eq_true rfl, Nat.le_of_ble_eq_true rfl⟩ ⟨Nat.zero_le _, Nat.zero_le _⟩ (Nat.le_of_ble_eq_true rfl) h_15 dX9_adds_15 ?_
    refine j_iconst (v := 1) (pc := 18) g dX9_adds_18 (by decide) ?_
    refine j_isub (pc := 19) g dX9_adds_19 ?_
    obtain ⟨r20, h_20, hf⟩ := gx_bs hf
    refine m9c_X9_in (pc := 20) g ⟨Nat.le_of_ble_eq_true rfl, Nat.le_of_ble_eq_true rfl⟩ ⟨Nat.zero_le _, Nat.zero_le _⟩ (Nat.le_of_ble_eq_true rfl) h_20 dX9_adds_20 ?_
    refine j_if_eq (tgt := 36) (pc := 23) g dX9_adds_23 (by decide) (fun c_23 => ?_) (fun c_23 => ?_)
    · have hf := gx_it c_23 hf
      refine j_iconst (v := 2) (pc := 36) g dX9_adds_36 (by decide) ?_
      exact hE _ _ _ _ hf dX9_adds_37 rfl
    · have hf := gx_if c_23 hf
      refine j_iload_n (pc := 26) g 3 dX9_adds_26 rfl ?_
      refine j_iconst (v := 0) (pc := 27) g dX9_adds_27 (by decide) ?_
      refine j_bipush (v := 100) (pc := 28) g dX9_adds_28 (by decide) ?_
      obtain ⟨r30, h_30, hf⟩ := gx_bs hf
      refine m9c_X9_in (pc := 30) g ⟨Nat.le_of_ble_eq_true rfl, Nat.le_of_ble_eq_true rfl⟩ ⟨Nat.zero_le _, Nat.zero_le _⟩ (Nat.le_of_ble_eq_true rfl) h_30 dX9_adds_30 ?_
      refine j_if_ne (tgt := 38) (pc := 33) g dX9_adds_33 (by decide) (fun c_33 => ?_) (fun c_33 => ?_)
      · have hf := gx_if c_33 hf
        refine j_aload_n (pc := 38) g 0 dX9_adds_38 rfl ?_
        refine m9g_1 (pc := 39) g dX9_adds_39 ?_
        refine j_iconst (v := 0) (pc := 42) g dX9_adds_42 (by decide) ?_
        obtain ⟨h_43, hf⟩ := gx_ck hf
        refine m9l_1 (pc := 43) g h_43 dX9_adds_43 ?_
        refine j_istore (L' := [(4, .int (os_a σ 1 (0 : Int32).toNatClampNeg)), (0, .ref (ad 0)), (1, .int p1), (2, .int p2), (3, .int p3)]) (pc := 44) g dX9_adds_44 (Nat.le_of_ble_eq_true rfl) rfl ?_
        refine j_iload (pc := 46) g 0 dX9_adds_46 rfl ?_
        refine j_bipush (v := 12) (pc := 48) g dX9_adds_48 (by decide) ?_
        refine j_icmp_ne (tgt := 55) (pc := 50) g dX9_adds_50 (by decide) (fun c_50 => ?_) (fun c_50 => ?_)
        · have hf := gx_if c_50 hf
          refine j_aload_n (pc := 55) g 1 dX9_adds_55 rfl ?_
          refine j_iload (pc := 56) g 0 dX9_adds_56 rfl ?_
          refine j_iconst (v := 0) (pc := 58) g dX9_adds_58 (by decide) ?_
          refine j_iconst (v := 1) (pc := 59) g dX9_adds_59 (by decide) ?_
          obtain ⟨r60, h_60, hf⟩ := gx_bs hf
          refine m9c_X9_sets (pc := 60) g ⟨Nat.le_of_ble_eq_true rfl, Nat.le_of_ble_eq_true rfl⟩ ⟨Nat.zero_le _, Nat.zero_le _⟩ (Nat.le_of_ble_eq_true rfl) h_60 dX9_adds_60 ?_
          refine j_aload_n (pc := 63) g 1 dX9_adds_63 rfl ?_
          refine j_iload (pc := 64) g 0 dX9_adds_64 rfl ?_
          refine j_iconst (v := 1) (pc := 66) g dX9_adds_66 (by decide) ?_
          refine j_iload_n (pc := 67) g 3 dX9_adds_67 rfl ?_
          obtain ⟨r68, h_68, hf⟩ := gx_bs hf
          refine m9c_X9_sets (pc := 68) g ⟨Nat.le_of_ble_eq_true rfl, Nat.le_of_ble_eq_true rfl⟩ ⟨Nat.zero_le _, Nat.zero_le _⟩ (Nat.le_of_ble_eq_true rfl) h_68 dX9_adds_68 ?_
          refine j_aload_n (pc := 71) g 1 dX9_adds_71 rfl ?_
          refine j_iload (pc := 72) g 0 dX9_adds_72 rfl ?_
          refine j_iconst (v := 2) (pc := 74) g dX9_adds_74 (by decide) ?_
          refine j_iload_n (pc := 75) g 4 dX9_adds_75 rfl ?_
          obtain ⟨r76, h_76, hf⟩ := gx_bs hf
          refine m9c_X9_sets (pc := 76) g ⟨Nat.le_of_ble_eq_true rfl, Nat.le_of_ble_eq_true rfl⟩ ⟨Nat.zero_le _, Nat.zero_le _⟩ (Nat.le_of_ble_eq_true rfl) h_76 dX9_adds_76 ?_
          refine j_aload_n (pc := 79) g 1 dX9_adds_79 rfl ?_
          refine j_iload (pc := 80) g 0 dX9_adds_80 rfl ?_
          refine j_iconst (v := 3) (pc := 82) g dX9_adds_82 (by decide) ?_
          refine j_iconst (v := 0) (pc := 83) g dX9_adds_83 (by decide) ?_
          obtain ⟨r84, h_84, hf⟩ := gx_bs hf
          refine m9c_X9_sets (pc := 84) g ⟨Nat.le_of_ble_eq_true rfl, Nat.le_of_ble_eq_true rfl⟩ ⟨Nat.zero_le _, Nat.zero_le _⟩ (Nat.le_of_ble_eq_true rfl) h_84 dX9_adds_84 ?_
          refine j_aload_n (pc := 87) g 1 dX9_adds_87 rfl ?_
          refine j_iload (pc := 88) g 0 dX9_adds_88 rfl ?_
          refine j_iconst (v := 4) (pc := 90) g dX9_adds_90 (by decide) ?_
          refine j_iload_n (pc := 91) g 2 dX9_adds_91 rfl ?_
          obtain ⟨r92, h_92, hf⟩ := gx_bs hf
          refine m9c_X9_sets (pc := 92) g ⟨Nat.le_of_ble_eq_true rfl, Nat.le_of_ble_eq_true rfl⟩ ⟨Nat.zero_le _, Nat.zero_le _⟩ (Nat.le_of_ble_eq_true rfl) h_92 dX9_adds_92 ?_
          refine j_aload_n (pc := 95) g 1 dX9_adds_95 rfl ?_
          refine m9g_1 (pc := 96) g dX9_adds_96 ?_
          refine j_iconst (v := 0) (pc := 99) g dX9_adds_99 (by decide) ?_
          refine j_iload (pc := 100) g 0 dX9_adds_100 rfl ?_
          refine j_iconst (v := 1) (pc := 102) g dX9_adds_102 (by decide) ?_
          refine j_iadd (pc := 103) g dX9_adds_103 ?_
          obtain ⟨h_104, hf⟩ := gx_ck hf
          refine m9s_1 (pc := 104) g h_104 dX9_adds_104 ?_
          refine j_aload_n (pc := 105) g 1 dX9_adds_105 rfl ?_
          refine j_iload (pc := 106) g 0 dX9_adds_106 rfl ?_
          obtain ⟨r108, h_108, hf⟩ := gx_bs hf
          refine m9c_X9_done (pc := 108) g ⟨Nat.le_of_ble_eq_true rfl, Nat.le_of_ble_eq_true rfl⟩ ⟨Nat.zero_le _, Nat.zero_le _⟩ (Nat.le_of_ble_eq_true rfl) h_108 dX9_adds_108 ?_
          exact hE _ _ _ _ hf dX9_adds_111 rfl
        · have hf := gx_it c_50 hf
          refine j_iconst (v := 3) (pc := 53) g dX9_adds_53 (by decide) ?_
          exact hE _ _ _ _ hf dX9_adds_54 rfl
      · have hf := gx_it c_33 hf
        refine j_iconst (v := 2) (pc := 36) g dX9_adds_36 (by decide) ?_
        exact hE _ _ _ _ hf dX9_adds_37 rfl
  · have hf := gx_it c_5 hf
    refine j_iconst (v := 1) (pc := 8) g dX9_adds_8 (by decide) ?_
    exact hE _ _ _ _ hf dX9_adds_9 rfl

set_option maxRecDepth 100000 in
set_option maxHeartbeats 4000000 in
theorem cX9_raises_ {D : va_G} {t : Nat → ClassId} {E : gx_E} {l : Launch} {ad : Nat → Nat} {rs : va_W} {σ : OS} {p1 : Int32} {q : (Int32 × OS)} (hf : fX9_raises σ p1 = some q) : gx_C D t E l yX9_raises cX9_raises 2 (some .int) 2 43 [.ref (ad 0), .int p1] (mC ad t σ ++ rs) (mC ad t q.2 ++ rs) (some (.int q.1)) := by
  refine gx_intro_i (by decide) (Nat.le_of_ble_eq_true rfl) (fun J g hE0 => ?_)
  have hE : ∀ (v : Int32) (σ : OS) (pc : Nat) (L : List (Nat × Value)), some (v, σ) = some q → decode cX9_raises pc = .ok (.ireturn, 1) → narrow .int (.int v) = .int v → J 0 0 (mC ad t σ ++ rs) pc L [.int v] := fun v σ pc L h h1 h2 => by cases h; exact hE0 pc L h1 h2
  unfold fX9_raises at hf
  show J 0 0 (mC ad t σ ++ rs) 0 [(0, .ref (ad 0)), (1, .int p1)] []
  refine j_aload_n (pc := 0) g 0 dX9_raises_0 rfl ?_
  refine j_iload_n (pc := 1) g 1 dX9_raises_1 rfl ?_
  obtain ⟨r2, h_2, hf⟩ := gx_bs hf
  refine m9c_X9_is (pc := 2) g ⟨Nat.le_of_ble_eq_true rfl, Nat.le_of_ble_eq_true rfl⟩ ⟨Nat.zero_le _, Nat.zero_le _⟩ (Nat.le_of_ble_eq_true rfl) h_2 dX9_raises_2 ?_
  refine j_if_ne (tgt := 10) (pc := 5) g dX9_raises_5 (by decide) (fun c_5 => ?_) (fun c_5 => ?_)
  · have hf := gx_if c_5 hf
    refine j_iload_n (pc := 10) g 1 dX9_raises_10 rfl ?_
    refine j_if_eq (tgt := 36) (pc := 11) g dX9_raises_11 (by decide) (fun c_11 => ?_) (fun c_11 => ?_)
    · have hf := gx_it c_11 hf
      refine j_iconst (v := 2) (pc := 36) g dX9_raises_36 (by decide) ?_
      exact hE _ _ _ _ hf dX9_raises_37 rfl
    · have hf := gx_if c_11 hf
      refine j_aload_n (pc := 14) g 0 dX9_raises_14 rfl ?_
      refine j_aload_n (pc := 15) g 0 dX9_raises_15 rfl ?_
      refine j_iload_n (pc := 16) g 1 dX9_raises_16 rfl ?_
      refine j_iconst (v := 4) (pc := 17) g dX9_raises_17 (by decide) ?_
      obtain ⟨r18, h_18, hf⟩ := gx_bs hf
      refine m9c_X9_of (pc := 18) g ⟨Nat.le_of_ble_eq_true rfl, Nat.le_of_ble_eq_true rfl⟩ ⟨Nat.zero_le _, Nat.zero_le _⟩ (Nat.le_of_ble_eq_true rfl) h_18 dX9_raises_18 ?_
      refine j_iconst (v := 1) (pc := 21) g dX9_raises_21 (by decide) ?_
      obtain ⟨r22, h_22, hf⟩ := gx_bs hf
      refine m9c_X9_of (pc := 22) g ⟨Nat.le_of_ble_eq_true rfl, Nat.le_of_ble_eq_true rfl⟩ ⟨Nat.zero_le _, Nat.zero_le _⟩ (Nat.le_of_ble_eq_true rfl) h_22 dX9_raises_22 ?_
      refine j_aload_n (pc := 25) g 0 dX9_raises_25 rfl ?_
      refine j_iload_n (pc := 26) g 1 dX9_raises_26 rfl ?_
      refine j_iconst (v := 1) (pc := 27) g dX9_raises_27 (by decide) ?_
      obtain ⟨r28, h_28, hf⟩ := gx_bs hf
      refine m9c_X9_of (pc := 28) g ⟨Nat.le_of_ble_eq_true rfl, Nat.le_of_ble_eq_true rfl⟩ ⟨Nat.zero_le _, Nat.zero_le _⟩ (Nat.le_of_ble_eq_true rfl) h_28 dX9_raises_28 ?_
      refine j_iconst (v := 1) (pc := 31) g dX9_raises_31 (by decide) ?_
      refine j_iadd (pc := 32) g dX9_raises_32 ?_
      refine j_icmp_gt (tgt := 38) (pc := 33) g dX9_raises_33 (by decide) (fun c_33 => ?_) (fun c_33 => ?_)
      · have hf := gx_it c_33 hf
        refine j_aload_n (pc := 38) g 0 dX9_raises_38 rfl ?_
        refine j_iload_n (pc := 39) g 1 dX9_raises_39 rfl ?_
        refine j_iconst (v := 1) (pc := 40) g dX9_raises_40 (by decide) ?_
        refine j_aload_n (pc := 41) g 0 dX9_raises_41 rfl ?_
        refine j_iload_n (pc := 42) g 1 dX9_raises_42 rfl ?_
        refine j_iconst (v := 1) (pc := 43) g dX9_raises_43 (by decide) ?_
        obtain ⟨r44, h_44, hf⟩ := gx_bs hf
        refine m9c_X9_of (pc := 44) g ⟨Nat.le_of_ble_eq_true rfl, Nat.le_of_ble_eq_true rfl⟩ ⟨Nat.zero_le _, Nat.zero_le _⟩ (Nat.le_of_ble_eq_true rfl) h_44 dX9_raises_44 ?_
        refine j_iconst (v := 1) (pc := 47) g dX9_raises_47 (by decide) ?_
        refine j_iadd (pc := 48) g dX9_raises_48 ?_
        obtain ⟨r49, h_49, hf⟩ := gx_bs hf
        refine m9c_X9_sets (pc := 49) g ⟨Nat.le_of_ble_eq_true rfl, Nat.le_of_ble_eq_true rfl⟩ ⟨Nat.zero_le _, Nat.zero_le _⟩ (Nat.le_of_ble_eq_true rfl) h_49 dX9_raises_49 ?_
        refine j_aload_n (pc := 52) g 0 dX9_raises_52 rfl ?_
        refine j_aload_n (pc := 53) g 0 dX9_raises_53 rfl ?_
        refine j_iload_n (pc := 54) g 1 dX9_raises_54 rfl ?_
        refine j_iconst (v := 1) (pc := 55) g dX9_raises_55 (by decide) ?_
        obtain ⟨r56, h_56, hf⟩ := gx_bs hf
        refine m9c_X9_of (pc := 56) g ⟨Nat.le_of_ble_eq_true rfl, Nat.le_of_ble_eq_true rfl⟩ ⟨Nat.zero_le _, Nat.zero_le _⟩ (Nat.le_of_ble_eq_true rfl) h_56 dX9_raises_56 ?_
        obtain ⟨r59, h_59, hf⟩ := gx_bs hf
        refine m9c_X9_done (pc := 59) g ⟨Nat.le_of_ble_eq_true rfl, Nat.le_of_ble_eq_true rfl⟩ ⟨Nat.zero_le _, Nat.zero_le _⟩ (Nat.le_of_ble_eq_true rfl) h_59 dX9_raises_59 ?_
        exact hE _ _ _ _ hf dX9_raises_62 rfl
      · have hf := gx_if c_33 hf
        refine j_iconst (v := 2) (pc := 36) g dX9_raises_36 (by decide) ?_
        exact hE _ _ _ _ hf dX9_raises_37 rfl
  · have hf := gx_it c_5 hf
    refine j_iconst (v := 1) (pc := 8) g dX9_raises_8 (by decide) ?_
    exact hE _ _ _ _ hf dX9_raises_9 rfl
theorem m9c_X9_commanded {D : va_G} {t : Nat → ClassId} {E : gx_E} {l : Launch} {R : Room} {cc : ByteArray} {nL : Nat} {J : gx_J} {ad : Nat → Nat} {rs : va_W} {k n pc : Nat} {L : List (Nat × Value)} {rest : List Value} (g : gx_G D t E l R cc RX9 nL J) {σ : OS} {x0 : Int32} {q : Int32} (hR : 2 + 1 ≤ R.frames ∧ 8 + (4 + 11) + 45 ≤ R.locals) (hkn : k ≤ R.cells ∧ n ≤ R.slots) (hcat : (rest.map fun v => v.category).sum ≤ 8) (hf : fX9_commanded σ x0 = some q) (hd : decode cc pc = .ok (.invokevirtual 77, 3)) (kk : J k n (mC ad t σ ++ rs) (pc + 3) L (.int q :: rest)) : J k n (mC ad t σ ++ rs) pc L (.int x0 :: .ref (ad 0) :: rest) := j_callVi (na := 1) (As := [.int x0]) (q0 := 0) (ci := 10) g (cX9_commanded_  hf) q_i_X9_commanded q_s_X9_commanded rfl rfl rfl q_c_X9_commanded q_l_X9_77 q_n_X9 (by decide +kernel) rfl hR hkn hcat (.refl _) (.refl _) hd kk rfl
set_option maxRecDepth 100000 in
set_option maxHeartbeats 4000000 in
theorem cX9_moves_ {D : va_G} {t : Nat → ClassId} {E : gx_E} {l : Launch} {ad : Nat → Nat} {rs : va_W} {σ : OS} {p1 : Int32} {p2 : Int32} {q : (Int32 × OS)} (hf : fX9_moves σ p1 p2 = some q) : gx_C D t E l yX9_moves cX9_moves 3 (some .int) 3 68 [.ref (ad 0), .int p1, .int p2] (mC ad t σ ++ rs) (mC ad t q.2 ++ rs) (some (.int q.1)) := by
  refine gx_intro_i (by decide) (Nat.le_of_ble_eq_true rfl) (fun J g hE0 => ?_)
  have hE : ∀ (v : Int32) (σ : OS) (pc : Nat) (L : List (Nat × Value)), some (v, σ) = some q → decode cX9_moves pc = .ok (.ireturn, 1) → narrow .int (.int v) = .int v → J 0 0 (mC ad t σ ++ rs) pc L [.int v] := fun v σ pc L h h1 h2 => by cases h; exact hE0 pc L h1 h2
  unfold fX9_moves at hf
  show J 0 0 (mC ad t σ ++ rs) 0 [(0, .ref (ad 0)), (1, .int p1), (2, .int p2)] []
  refine j_aload_n (pc := 0) g 0 dX9_moves_0 rfl ?_
  refine j_iload_n (pc := 1) g 1 dX9_moves_1 rfl ?_
  obtain ⟨r2, h_2, hf⟩ := gx_bs hf
  refine m9c_X9_is (pc := 2) g ⟨Nat.le_of_ble_eq_true rfl, Nat.le_of_ble_eq_true rfl⟩ ⟨Nat.zero_le _, Nat.zero_le _⟩ (Nat.le_of_ble_eq_true rfl) h_2 dX9_moves_2 ?_
  refine j_if_eq (tgt := 16) (pc := 5) g dX9_moves_5 (by decide) (fun c_5 => ?_) (fun c_5 => ?_)
  · have hf := gx_it c_5 hf
    refine j_iconst (v := 1) (pc := 16) g dX9_moves_16 (by decide) ?_
    exact hE _ _ _ _ hf dX9_moves_17 rfl
  · have hf := gx_if c_5 hf
    refine j_aload_n (pc := 8) g 0 dX9_moves_8 rfl ?_
    refine j_iload_n (pc := 9) g 2 dX9_moves_9 rfl ?_
    obtain ⟨r10, h_10, hf⟩ := gx_bs hf
    refine m9c_X9_is (pc := 10) g ⟨Nat.le_of_ble_eq_true rfl, Nat.le_of_ble_eq_true rfl⟩ ⟨Nat.zero_le _, Nat.zero_le _⟩ (Nat.le_of_ble_eq_true rfl) h_10 dX9_moves_10 ?_
    refine j_if_ne (tgt := 18) (pc := 13) g dX9_moves_13 (by decide) (fun c_13 => ?_) (fun c_13 => ?_)
    · have hf := gx_if c_13 hf
      refine j_iload_n (pc := 18) g 1 dX9_moves_18 rfl ?_
      refine j_if_eq (tgt := 27) (pc := 19) g dX9_moves_19 (by decide) (fun c_19 => ?_) (fun c_19 => ?_)
      · have hf := gx_it c_19 hf
        refine j_iconst (v := 2) (pc := 27) g dX9_moves_27 (by decide) ?_
        exact hE _ _ _ _ hf dX9_moves_28 rfl
      · have hf := gx_if c_19 hf
        refine j_iload_n (pc := 22) g 1 dX9_moves_22 rfl ?_
        refine j_iload_n (pc := 23) g 2 dX9_moves_23 rfl ?_
        refine j_icmp_ne (tgt := 29) (pc := 24) g dX9_moves_24 (by decide) (fun c_24 => ?_) (fun c_24 => ?_)
        · have hf := gx_if c_24 hf
          refine j_aload_n (pc := 29) g 0 dX9_moves_29 rfl ?_
          refine j_iload_n (pc := 30) g 1 dX9_moves_30 rfl ?_
          refine j_iload_n (pc := 31) g 2 dX9_moves_31 rfl ?_
          obtain ⟨r32, h_32, hf⟩ := gx_bs hf
          refine m9c_X9_above (pc := 32) g ⟨Nat.le_of_ble_eq_true rfl, Nat.le_of_ble_eq_true rfl⟩ ⟨Nat.zero_le _, Nat.zero_le _⟩ (Nat.le_of_ble_eq_true rfl) h_32 dX9_moves_32 ?_
          refine j_if_eq (tgt := 40) (pc := 35) g dX9_moves_35 (by decide) (fun c_35 => ?_) (fun c_35 => ?_)
          · have hf := gx_it c_35 hf
            refine j_aload_n (pc := 40) g 0 dX9_moves_40 rfl ?_
            refine j_iload_n (pc := 41) g 2 dX9_moves_41 rfl ?_
            refine j_iconst (v := 1) (pc := 42) g dX9_moves_42 (by decide) ?_
            obtain ⟨r43, h_43, hf⟩ := gx_bs hf
            refine m9c_X9_of (pc := 43) g ⟨Nat.le_of_ble_eq_true rfl, Nat.le_of_ble_eq_true rfl⟩ ⟨Nat.zero_le _, Nat.zero_le _⟩ (Nat.le_of_ble_eq_true rfl) h_43 dX9_moves_43 ?_
            refine j_aload_n (pc := 46) g 0 dX9_moves_46 rfl ?_
            refine j_iload_n (pc := 47) g 1 dX9_moves_47 rfl ?_
            refine j_iconst (v := 1) (pc := 48) g dX9_moves_48 (by decide) ?_
            obtain ⟨r49, h_49, hf⟩ := gx_bs hf
            refine m9c_X9_of (pc := 49) g ⟨Nat.le_of_ble_eq_true rfl, Nat.le_of_ble_eq_true rfl⟩ ⟨Nat.zero_le _, Nat.zero_le _⟩ (Nat.le_of_ble_eq_true rfl) h_49 dX9_moves_49 ?_
            refine j_icmp_gt (tgt := 57) (pc := 52) g dX9_moves_52 (by decide) (fun c_52 => ?_) (fun c_52 => ?_)
            · have hf := gx_it c_52 hf
              refine j_aload_n (pc := 57) g 0 dX9_moves_57 rfl ?_
              refine j_iload_n (pc := 58) g 1 dX9_moves_58 rfl ?_
              refine j_iconst (v := 4) (pc := 59) g dX9_moves_59 (by decide) ?_
              refine j_iload_n (pc := 60) g 2 dX9_moves_60 rfl ?_
              obtain ⟨r61, h_61, hf⟩ := gx_bs hf
              refine m9c_X9_sets (pc := 61) g ⟨Nat.le_of_ble_eq_true rfl, Nat.le_of_ble_eq_true rfl⟩ ⟨Nat.zero_le _, Nat.zero_le _⟩ (Nat.le_of_ble_eq_true rfl) h_61 dX9_moves_61 ?_
              refine j_aload_n (pc := 64) g 0 dX9_moves_64 rfl ?_
              refine j_aload_n (pc := 65) g 0 dX9_moves_65 rfl ?_
              refine j_iload_n (pc := 66) g 2 dX9_moves_66 rfl ?_
              obtain ⟨r67, h_67, hf⟩ := gx_bs hf
              refine m9c_X9_commanded (pc := 67) g ⟨Nat.le_of_ble_eq_true rfl, Nat.le_of_ble_eq_true rfl⟩ ⟨Nat.zero_le _, Nat.zero_le _⟩ (Nat.le_of_ble_eq_true rfl) h_67 dX9_moves_67 ?_
              obtain ⟨r70, h_70, hf⟩ := gx_bs hf
              refine m9c_X9_done (pc := 70) g ⟨Nat.le_of_ble_eq_true rfl, Nat.le_of_ble_eq_true rfl⟩ ⟨Nat.zero_le _, Nat.zero_le _⟩ (Nat.le_of_ble_eq_true rfl) h_70 dX9_moves_70 ?_
              exact hE _ _ _ _ hf dX9_moves_73 rfl
            · have hf := gx_if c_52 hf
              refine j_iconst (v := 4) (pc := 55) g dX9_moves_55 (by decide) ?_
              exact hE _ _ _ _ hf dX9_moves_56 rfl
          · have hf := gx_if c_35 hf
            refine j_iconst (v := 3) (pc := 38) g dX9_moves_38 (by decide) ?_
            exact hE _ _ _ _ hf dX9_moves_39 rfl
        · have hf := gx_it c_24 hf
          refine j_iconst (v := 2) (pc := 27) g dX9_moves_27 (by decide) ?_
          exact hE _ _ _ _ hf dX9_moves_28 rfl
    · have hf := gx_it c_13 hf
      refine j_iconst (v := 1) (pc := 16) g dX9_moves_16 (by decide) ?_
      exact hE _ _ _ _ hf dX9_moves_17 rfl
theorem m9c_X9_under {D : va_G} {t : Nat → ClassId} {E : gx_E} {l : Launch} {R : Room} {cc : ByteArray} {nL : Nat} {J : gx_J} {ad : Nat → Nat} {rs : va_W} {k n pc : Nat} {L : List (Nat × Value)} {rest : List Value} (g : gx_G D t E l R cc RX9 nL J) {σ : OS} {x0 : Int32} {q : Int32} (hR : 1 + 1 ≤ R.frames ∧ 8 + (4 + 11) + 22 ≤ R.locals) (hkn : k ≤ R.cells ∧ n ≤ R.slots) (hcat : (rest.map fun v => v.category).sum ≤ 8) (hf : fX9_under σ x0 = some q) (hd : decode cc pc = .ok (.invokevirtual 80, 3)) (kk : J k n (mC ad t σ ++ rs) (pc + 3) L (.int q :: rest)) : J k n (mC ad t σ ++ rs) pc L (.int x0 :: .ref (ad 0) :: rest) := j_callVi (na := 1) (As := [.int x0]) (q0 := 0) (ci := 10) g (cX9_under_  hf) q_i_X9_under q_s_X9_under rfl rfl rfl q_c_X9_under q_l_X9_80 q_n_X9 (by decide +kernel) rfl hR hkn hcat (.refl _) (.refl _) hd kk rfl
theorem m9c_X9_order {D : va_G} {t : Nat → ClassId} {E : gx_E} {l : Launch} {R : Room} {cc : ByteArray} {nL : Nat} {J : gx_J} {ad : Nat → Nat} {rs : va_W} {k n pc : Nat} {L : List (Nat × Value)} {rest : List Value} (g : gx_G D t E l R cc RX9 nL J) {σ : OS} {x0 : Int32} {x1 : Int32} {q : Int32} (hR : 0 + 1 ≤ R.frames ∧ 8 + (3 + 11) + 0 ≤ R.locals) (hkn : k ≤ R.cells ∧ n ≤ R.slots) (hcat : (rest.map fun v => v.category).sum ≤ 8) (hf : fX9_order σ x0 x1 = some q) (hd : decode cc pc = .ok (.invokevirtual 83, 3)) (kk : J k n (mC ad t σ ++ rs) (pc + 3) L (.int q :: rest)) : J k n (mC ad t σ ++ rs) pc L (.int x1 :: .int x0 :: .ref (ad 0) :: rest) := j_callVi (na := 2) (As := [.int x0, .int x1]) (q0 := 0) (ci := 10) g (cX9_order_  hf) q_i_X9_order q_s_X9_order rfl rfl rfl q_c_X9_order q_l_X9_83 q_n_X9 (by decide +kernel) rfl hR hkn hcat (.refl _) (.refl _) hd kk rfl
theorem m9c_X9_drops {D : va_G} {t : Nat → ClassId} {E : gx_E} {l : Launch} {R : Room} {cc : ByteArray} {nL : Nat} {J : gx_J} {ad : Nat → Nat} {rs : va_W} {k n pc : Nat} {L : List (Nat × Value)} {rest : List Value} (g : gx_G D t E l R cc RX9 nL J) {σ : OS} {x0 : Int32} {q : OS} (hR : 0 + 1 ≤ R.frames ∧ 8 + (4 + 11) + 0 ≤ R.locals) (hkn : k ≤ R.cells ∧ n ≤ R.slots) (hcat : (rest.map fun v => v.category).sum ≤ 8) (hf : fX9_drops σ x0 = some q) (hd : decode cc pc = .ok (.invokevirtual 86, 3)) (kk : J k n (mC ad t q ++ rs) (pc + 3) L (rest)) : J k n (mC ad t σ ++ rs) pc L (.int x0 :: .ref (ad 0) :: rest) := j_callVv (na := 1) (As := [.int x0]) (q0 := 0) (ci := 10) g (cX9_drops_  hf) q_i_X9_drops q_s_X9_drops rfl rfl rfl q_c_X9_drops q_l_X9_86 q_n_X9 (by decide +kernel) rfl hR hkn hcat (.refl _) (.refl _) hd kk rfl
set_option maxRecDepth 100000 in
set_option maxHeartbeats 4000000 in
theorem tX9_leaves_87 {D : va_G} {t : Nat → ClassId} {E : gx_E} {l : Launch} {J : gx_J} {ad : Nat → Nat} {rs : va_W} {q : (Int32 × OS)} (g : gx_G D t E l ({ frames := 2, cells := 0, slots := 0, locals := 45 }) cX9_leaves RX9 5 J) (hE : ∀ (v : Int32) (σ : OS) (pc : Nat) (L : List (Nat × Value)), some (v, σ) = some q → decode cX9_leaves pc = .ok (.ireturn, 1) → narrow .int (.int v) = .int v → J 0 0 (mC ad t σ ++ rs) pc L [.int v])  : ∀ (n : Nat) (σ : OS) (v1 : Int32) (v2 : Int32) (v4 : Int32), fX9_leaves_87 n σ v1 v2 v4 = some q → J 0 0 (mC ad t σ ++ rs) 87 [(0, .ref (ad 0)), (1, .int v1), (2, .int v2), (4, .int v4)] [] := by
  intro n
  induction n with
  | zero => intro σ v1 v2 v4 hf; cases hf
  | succ n ih =>
    intro σ v1 v2 v4 hf
    replace hf := (fX9_leaves_87_s n σ v1 v2 v4).symm.trans hf
    refine j_iload (pc := 87) g 3 dX9_leaves_87 rfl ?_
    refine j_if_lt (tgt := 128) (pc := 89) g dX9_leaves_89 (by decide) (fun c_89 => ?_) (fun c_89 => ?_)
    · have hf := gx_it c_89 hf
      refine j_iload_n (pc := 128) g 2 dX9_leaves_128 rfl ?_
      exact hE _ _ _ _ hf dX9_leaves_129 rfl
    · have hf := gx_if c_89 hf
      refine j_aload_n (pc := 92) g 0 dX9_leaves_92 rfl ?_
      refine j_iload (pc := 93) g 3 dX9_leaves_93 rfl ?_
      refine j_iconst (v := 0) (pc := 95) g dX9_leaves_95 (by decide) ?_
      obtain ⟨r96, h_96, hf⟩ := gx_bs hf
      refine m9c_X9_order (pc := 96) g ⟨Nat.le_of_ble_eq_true rfl, Nat.le_of_ble_eq_true rfl⟩ ⟨Nat.zero_le _, Nat.zero_le _⟩ (Nat.le_of_ble_eq_true rfl) h_96 dX9_leaves_96 ?_
      refine j_iload_n (pc := 99) g 1 dX9_leaves_99 rfl ?_
      refine j_icmp_eq (tgt := 106) (pc := 100) g dX9_leaves_100 (by decide) (fun c_100 => ?_) (fun c_100 => ?_)
      · have hf := gx_it c_100 hf
        refine j_aload_n (pc := 106) g 0 dX9_leaves_106 rfl ?_
        refine j_iload (pc := 107) g 3 dX9_leaves_107 rfl ?_
        obtain ⟨r109, h_109, hf⟩ := gx_bs hf
        refine m9c_X9_drops (pc := 109) g ⟨Nat.le_of_ble_eq_true rfl, Nat.le_of_ble_eq_true rfl⟩ ⟨Nat.zero_le _, Nat.zero_le _⟩ (Nat.le_of_ble_eq_true rfl) h_109 dX9_leaves_109 ?_
        refine j_aload_n (pc := 112) g 0 dX9_leaves_112 rfl ?_
        refine m9g_1 (pc := 113) g dX9_leaves_113 ?_
        refine j_iconst (v := 4) (pc := 116) g dX9_leaves_116 (by decide) ?_
        refine j_dup2 (pc := 117) g dX9_leaves_117 rfl rfl ?_
        obtain ⟨h_118, hf⟩ := gx_ck hf
        refine m9l_1 (pc := 118) g h_118 dX9_leaves_118 ?_
        refine j_iconst (v := 1) (pc := 119) g dX9_leaves_119 (by decide) ?_
        refine j_iadd (pc := 120) g dX9_leaves_120 ?_
        obtain ⟨h_121, hf⟩ := gx_ck hf
        refine m9s_1 (pc := 121) g h_121 dX9_leaves_121 ?_
        refine j_iinc (v := v4 + (-1)) (L' := [(4, .int (v4 + (-1))), (0, .ref (ad 0)), (1, .int v1), (2, .int v2)]) (pc := 122) g 3 dX9_leaves_122 rfl rfl (Nat.le_of_ble_eq_true rfl) rfl ?_
        refine j_goto (tgt := 87) (pc := 125) g dX9_leaves_125 (by decide) ?_
        refine j_sub (pc := 87) g [1, 2, 3, 0] rfl ?_
        exact ih (os_sa r109 1 (4 : Int32).toNatClampNeg ((os_a r109 1 (4 : Int32).toNatClampNeg) + (1 : Int32))) v1 v2 (v4 + (-1)) hf
      · have hf := gx_if c_100 hf
        refine j_goto (tgt := 122) (pc := 103) g dX9_leaves_103 (by decide) ?_
        refine j_iinc (v := v4 + (-1)) (L' := [(4, .int (v4 + (-1))), (0, .ref (ad 0)), (1, .int v1), (2, .int v2)]) (pc := 122) g 3 dX9_leaves_122 rfl rfl (Nat.le_of_ble_eq_true rfl) rfl ?_
        refine j_goto (tgt := 87) (pc := 125) g dX9_leaves_125 (by decide) ?_
        refine j_sub (pc := 87) g [1, 2, 3, 0] rfl ?_
        exact ih σ v1 v2 (v4 + (-1)) hf
set_option maxRecDepth 100000 in
set_option maxHeartbeats 4000000 in
theorem tX9_leaves_16 {D : va_G} {t : Nat → ClassId} {E : gx_E} {l : Launch} {J : gx_J} {ad : Nat → Nat} {rs : va_W} {q : (Int32 × OS)} (g : gx_G D t E l ({ frames := 2, cells := 0, slots := 0, locals := 45 }) cX9_leaves RX9 5 J) (hE : ∀ (v : Int32) (σ : OS) (pc : Nat) (L : List (Nat × Value)), some (v, σ) = some q → decode cX9_leaves pc = .ok (.ireturn, 1) → narrow .int (.int v) = .int v → J 0 0 (mC ad t σ ++ rs) pc L [.int v])  : ∀ (n : Nat) (σ : OS) (v1 : Int32) (v2 : Int32) (v3 : Int32) (v4 : Int32), fX9_leaves_16 n σ v1 v2 v3 v4 = some q → J 0 0 (mC ad t σ ++ rs) 16 [(0, .ref (ad 0)), (1, .int v1), (2, .int v2), (3, .int v3), (4, .int v4)] [] := by
  intro n
  induction n with
  | zero => intro σ v1 v2 v3 v4 hf; cases hf
  | succ n ih =>
    intro σ v1 v2 v3 v4 hf
    replace hf := (fX9_leaves_16_s n σ v1 v2 v3 v4).symm.trans hf
    refine j_iload (pc := 16) g 4 dX9_leaves_16 rfl ?_
    refine j_aload_n (pc := 18) g 0 dX9_leaves_18 rfl ?_
    refine m9g_1 (pc := 19) g dX9_leaves_19 ?_
    refine j_iconst (v := 0) (pc := 22) g dX9_leaves_22 (by decide) ?_
    obtain ⟨h_23, hf⟩ := gx_ck hf
    refine m9l_1 (pc := 23) g h_23 dX9_leaves_23 ?_
    refine j_icmp_ge (tgt := 63) (pc := 24) g dX9_leaves_24 (by decide) (fun c_24 => ?_) (fun c_24 => ?_)
    · have hf := gx_it c_24 hf
      refine j_aload_n (pc := 63) g 0 dX9_leaves_63 rfl ?_
      refine j_iload_n (pc := 64) g 1 dX9_leaves_64 rfl ?_
      refine j_iconst (v := 0) (pc := 65) g dX9_leaves_65 (by decide) ?_
      refine j_iconst (v := 0) (pc := 66) g dX9_leaves_66 (by decide) ?_
      obtain ⟨r67, h_67, hf⟩ := gx_bs hf
      refine m9c_X9_sets (pc := 67) g ⟨Nat.le_of_ble_eq_true rfl, Nat.le_of_ble_eq_true rfl⟩ ⟨Nat.zero_le _, Nat.zero_le _⟩ (Nat.le_of_ble_eq_true rfl) h_67 dX9_leaves_67 ?_
      refine j_aload_n (pc := 70) g 0 dX9_leaves_70 rfl ?_
      refine j_iload_n (pc := 71) g 1 dX9_leaves_71 rfl ?_
      refine j_iconst (v := 4) (pc := 72) g dX9_leaves_72 (by decide) ?_
      refine j_iconst (v := -1) (pc := 73) g dX9_leaves_73 (by decide) ?_
      obtain ⟨r74, h_74, hf⟩ := gx_bs hf
      refine m9c_X9_sets (pc := 74) g ⟨Nat.le_of_ble_eq_true rfl, Nat.le_of_ble_eq_true rfl⟩ ⟨Nat.zero_le _, Nat.zero_le _⟩ (Nat.le_of_ble_eq_true rfl) h_74 dX9_leaves_74 ?_
      refine j_aload_n (pc := 77) g 0 dX9_leaves_77 rfl ?_
      refine m9g_1 (pc := 78) g dX9_leaves_78 ?_
      refine j_iconst (v := 5) (pc := 81) g dX9_leaves_81 (by decide) ?_
      obtain ⟨h_82, hf⟩ := gx_ck hf
      refine m9l_1 (pc := 82) g h_82 dX9_leaves_82 ?_
      refine j_iconst (v := 1) (pc := 83) g dX9_leaves_83 (by decide) ?_
      refine j_isub (pc := 84) g dX9_leaves_84 ?_
      refine j_istore (L' := [(4, .int ((os_a r74 1 (5 : Int32).toNatClampNeg) - (1 : Int32))), (0, .ref (ad 0)), (1, .int v1), (2, .int v2), (3, .int v3)]) (pc := 85) g dX9_leaves_85 (Nat.le_of_ble_eq_true rfl) rfl ?_
      refine j_sub (pc := 87) g [1, 2, 3, 0] rfl ?_
      exact tX9_leaves_87 g hE 2000 r74 v1 v2 ((os_a r74 1 (5 : Int32).toNatClampNeg) - (1 : Int32)) hf
    · have hf := gx_if c_24 hf
      refine j_aload_n (pc := 27) g 0 dX9_leaves_27 rfl ?_
      refine j_iload (pc := 28) g 4 dX9_leaves_28 rfl ?_
      refine j_iconst (v := 0) (pc := 30) g dX9_leaves_30 (by decide) ?_
      obtain ⟨r31, h_31, hf⟩ := gx_bs hf
      refine m9c_X9_of (pc := 31) g ⟨Nat.le_of_ble_eq_true rfl, Nat.le_of_ble_eq_true rfl⟩ ⟨Nat.zero_le _, Nat.zero_le _⟩ (Nat.le_of_ble_eq_true rfl) h_31 dX9_leaves_31 ?_
      refine j_iconst (v := 1) (pc := 34) g dX9_leaves_34 (by decide) ?_
      refine j_icmp_ne (tgt := 57) (pc := 35) g dX9_leaves_35 (by decide) (fun c_35 => ?_) (fun c_35 => ?_)
      · have hf := gx_if c_35 hf
        refine j_iinc (v := v4 + 1) (L' := [(4, .int (v4 + 1)), (0, .ref (ad 0)), (1, .int v1), (2, .int v2), (3, .int v3)]) (pc := 57) g 4 dX9_leaves_57 rfl rfl (Nat.le_of_ble_eq_true rfl) rfl ?_
        refine j_goto (tgt := 16) (pc := 60) g dX9_leaves_60 (by decide) ?_
        refine j_sub (pc := 16) g [1, 2, 3, 4, 0] rfl ?_
        exact ih σ v1 v2 v3 (v4 + 1) hf
      · have hf := gx_it c_35 hf
        refine j_aload_n (pc := 38) g 0 dX9_leaves_38 rfl ?_
        refine j_iload (pc := 39) g 4 dX9_leaves_39 rfl ?_
        refine j_iconst (v := 4) (pc := 41) g dX9_leaves_41 (by decide) ?_
        obtain ⟨r42, h_42, hf⟩ := gx_bs hf
        refine m9c_X9_of (pc := 42) g ⟨Nat.le_of_ble_eq_true rfl, Nat.le_of_ble_eq_true rfl⟩ ⟨Nat.zero_le _, Nat.zero_le _⟩ (Nat.le_of_ble_eq_true rfl) h_42 dX9_leaves_42 ?_
        refine j_iload_n (pc := 45) g 1 dX9_leaves_45 rfl ?_
        refine j_icmp_ne (tgt := 57) (pc := 46) g dX9_leaves_46 (by decide) (fun c_46 => ?_) (fun c_46 => ?_)
        · have hf := gx_if c_46 hf
          refine j_iinc (v := v4 + 1) (L' := [(4, .int (v4 + 1)), (0, .ref (ad 0)), (1, .int v1), (2, .int v2), (3, .int v3)]) (pc := 57) g 4 dX9_leaves_57 rfl rfl (Nat.le_of_ble_eq_true rfl) rfl ?_
          refine j_goto (tgt := 16) (pc := 60) g dX9_leaves_60 (by decide) ?_
          refine j_sub (pc := 16) g [1, 2, 3, 4, 0] rfl ?_
          exact ih σ v1 v2 v3 (v4 + 1) hf
        · have hf := gx_it c_46 hf
          refine j_aload_n (pc := 49) g 0 dX9_leaves_49 rfl ?_
          refine j_iload (pc := 50) g 4 dX9_leaves_50 rfl ?_
          refine j_iconst (v := 4) (pc := 52) g dX9_leaves_52 (by decide) ?_
          refine j_iload_n (pc := 53) g 3 dX9_leaves_53 rfl ?_
          obtain ⟨r54, h_54, hf⟩ := gx_bs hf
          refine m9c_X9_sets (pc := 54) g ⟨Nat.le_of_ble_eq_true rfl, Nat.le_of_ble_eq_true rfl⟩ ⟨Nat.zero_le _, Nat.zero_le _⟩ (Nat.le_of_ble_eq_true rfl) h_54 dX9_leaves_54 ?_
          refine j_iinc (v := v4 + 1) (L' := [(4, .int (v4 + 1)), (0, .ref (ad 0)), (1, .int v1), (2, .int v2), (3, .int v3)]) (pc := 57) g 4 dX9_leaves_57 rfl rfl (Nat.le_of_ble_eq_true rfl) rfl ?_
          refine j_goto (tgt := 16) (pc := 60) g dX9_leaves_60 (by decide) ?_
          refine j_sub (pc := 16) g [1, 2, 3, 4, 0] rfl ?_
          exact ih r54 v1 v2 v3 (v4 + 1) hf
set_option maxRecDepth 100000 in
set_option maxHeartbeats 4000000 in
theorem cX9_leaves_ {D : va_G} {t : Nat → ClassId} {E : gx_E} {l : Launch} {ad : Nat → Nat} {rs : va_W} {σ : OS} {p1 : Int32} {q : (Int32 × OS)} (hf : fX9_leaves σ p1 = some q) : gx_C D t E l yX9_leaves cX9_leaves 5 (some .int) 2 45 [.ref (ad 0), .int p1] (mC ad t σ ++ rs) (mC ad t q.2 ++ rs) (some (.int q.1)) := by
  refine gx_intro_i (by decide) (Nat.le_of_ble_eq_true rfl) (fun J g hE0 => ?_)
  have hE : ∀ (v : Int32) (σ : OS) (pc : Nat) (L : List (Nat × Value)), some (v, σ) = some q → decode cX9_leaves pc = .ok (.ireturn, 1) → narrow .int (.int v) = .int v → J 0 0 (mC ad t σ ++ rs) pc L [.int v] := fun v σ pc L h h1 h2 => by cases h; exact hE0 pc L h1 h2
  unfold fX9_leaves at hf
  show J 0 0 (mC ad t σ ++ rs) 0 [(0, .ref (ad 0)), (1, .int p1)] []
  refine j_aload_n (pc := 0) g 0 dX9_leaves_0 rfl ?_
  refine j_iload_n (pc := 1) g 1 dX9_leaves_1 rfl ?_
  obtain ⟨r2, h_2, hf⟩ := gx_bs hf
  refine m9c_X9_under (pc := 2) g ⟨Nat.le_of_ble_eq_true rfl, Nat.le_of_ble_eq_true rfl⟩ ⟨Nat.zero_le _, Nat.zero_le _⟩ (Nat.le_of_ble_eq_true rfl) h_2 dX9_leaves_2 ?_
  refine j_istore_n (L' := [(2, .int r2), (0, .ref (ad 0)), (1, .int p1)]) (pc := 5) g dX9_leaves_5 rfl (Nat.le_of_ble_eq_true rfl) rfl ?_
  refine j_aload_n (pc := 6) g 1 dX9_leaves_6 rfl ?_
  refine j_iload_n (pc := 7) g 2 dX9_leaves_7 rfl ?_
  refine j_iconst (v := 4) (pc := 8) g dX9_leaves_8 (by decide) ?_
  obtain ⟨r9, h_9, hf⟩ := gx_bs hf
  refine m9c_X9_of (pc := 9) g ⟨Nat.le_of_ble_eq_true rfl, Nat.le_of_ble_eq_true rfl⟩ ⟨Nat.zero_le _, Nat.zero_le _⟩ (Nat.le_of_ble_eq_true rfl) h_9 dX9_leaves_9 ?_
  refine j_istore_n (L' := [(3, .int r9), (2, .int r2), (0, .ref (ad 0)), (1, .int p1)]) (pc := 12) g dX9_leaves_12 rfl (Nat.le_of_ble_eq_true rfl) rfl ?_
  refine j_iconst (v := 0) (pc := 13) g dX9_leaves_13 (by decide) ?_
  refine j_istore (L' := [(4, .int (0 : Int32)), (3, .int r9), (2, .int r2), (0, .ref (ad 0)), (1, .int p1)]) (pc := 14) g dX9_leaves_14 (Nat.le_of_ble_eq_true rfl) rfl ?_
  refine j_sub (pc := 16) g [3, 4, 2, 1, 0] rfl ?_
  exact tX9_leaves_16 g hE 2000 σ p1 r2 r9 (0 : Int32) hf
theorem m9c_X9_leaves {D : va_G} {t : Nat → ClassId} {E : gx_E} {l : Launch} {R : Room} {cc : ByteArray} {nL : Nat} {J : gx_J} {ad : Nat → Nat} {rs : va_W} {k n pc : Nat} {L : List (Nat × Value)} {rest : List Value} (g : gx_G D t E l R cc RX9 nL J) {σ : OS} {x0 : Int32} {q : (Int32 × OS)} (hR : 2 + 1 ≤ R.frames ∧ 8 + (5 + 11) + 45 ≤ R.locals) (hkn : k ≤ R.cells ∧ n ≤ R.slots) (hcat : (rest.map fun v => v.category).sum ≤ 8) (hf : fX9_leaves σ x0 = some q) (hd : decode cc pc = .ok (.invokevirtual 90, 3)) (kk : J k n (mC ad t q.2 ++ rs) (pc + 3) L (.int q.1 :: rest)) : J k n (mC ad t σ ++ rs) pc L (.int x0 :: .ref (ad 0) :: rest) := j_callVi (na := 1) (As := [.int x0]) (q0 := 0) (ci := 10) g (cX9_leaves_  hf) q_i_X9_leaves q_s_X9_leaves rfl rfl rfl q_c_X9_leaves q_l_X9_90 q_n_X9 (by decide +kernel) rfl hR hkn hcat (.refl _) (.refl _) hd kk rfl
set_option maxRecDepth 100000 in
set_option maxHeartbeats 4000000 in
theorem cX9_fires_ {D : va_G} {t : Nat → ClassId} {E : gx_E} {l : Launch} {ad : Nat → Nat} {rs : va_W} {σ : OS} {p1 : Int32} {q : (Int32 × OS)} (hf : fX9_fires σ p1 = some q) : gx_C D t E l yX9_fires cX9_fires 2 (some .int) 3 69 [.ref (ad 0), .int p1] (mC ad t σ ++ rs) (mC ad t q.2 ++ rs) (some (.int q.1)) := by
  refine gx_intro_i (by decide) (Nat.le_of_ble_eq_true rfl) (fun J g hE0 => ?_)
  have hE : ∀ (v : Int32) (σ : OS) (pc : Nat) (L : List (Nat × Value)), some (v, σ) = some q → decode cX9_fires pc = .ok (.ireturn, 1) → narrow .int (.int v) = .int v → J 0 0 (mC ad t σ ++ rs) pc L [.int v] := fun v σ pc L h h1 h2 => by cases h; exact hE0 pc L h1 h2
  unfold fX9_fires at hf
  show J 0 0 (mC ad t σ ++ rs) 0 [(0, .ref (ad 0)), (1, .int p1)] []
  refine j_aload_n (pc := 0) g 0 dX9_fires_0 rfl ?_
  refine j_iload_n (pc := 1) g 1 dX9_fires_1 rfl ?_
  obtain ⟨r2, h_2, hf⟩ := gx_bs hf
  refine m9c_X9_is (pc := 2) g ⟨Nat.le_of_ble_eq_true rfl, Nat.le_of_ble_eq_true rfl⟩ ⟨Nat.zero_le _, Nat.zero_le _⟩ (Nat.le_of_ble_eq_true rfl) h_2 dX9_fires_2 ?_
  refine j_if_ne (tgt := 10) (pc := 5) g dX9_fires_5 (by decide) (fun c_5 => ?_) (fun c_5 => ?_)
  · have hf := gx_if c_5 hf
    refine j_iload_n (pc := 10) g 1 dX9_fires_10 rfl ?_
    refine j_if_ne (tgt := 18) (pc := 11) g dX9_fires_11 (by decide) (fun c_11 => ?_) (fun c_11 => ?_)
    · have hf := gx_if c_11 hf
      refine j_aload_n (pc := 18) g 0 dX9_fires_18 rfl ?_
      refine j_aload_n (pc := 19) g 0 dX9_fires_19 rfl ?_
      refine j_iload_n (pc := 20) g 1 dX9_fires_20 rfl ?_
      obtain ⟨r21, h_21, hf⟩ := gx_bs hf
      refine m9c_X9_leaves (pc := 21) g ⟨Nat.le_of_ble_eq_true rfl, Nat.le_of_ble_eq_true rfl⟩ ⟨Nat.zero_le _, Nat.zero_le _⟩ (Nat.le_of_ble_eq_true rfl) h_21 dX9_fires_21 ?_
      obtain ⟨r24, h_24, hf⟩ := gx_bs hf
      refine m9c_X9_done (pc := 24) g ⟨Nat.le_of_ble_eq_true rfl, Nat.le_of_ble_eq_true rfl⟩ ⟨Nat.zero_le _, Nat.zero_le _⟩ (Nat.le_of_ble_eq_true rfl) h_24 dX9_fires_24 ?_
      exact hE _ _ _ _ hf dX9_fires_27 rfl
    · have hf := gx_it c_11 hf
      refine j_iconst (v := 2) (pc := 14) g dX9_fires_14 (by decide) ?_
      refine j_goto (tgt := 27) (pc := 15) g dX9_fires_15 (by decide) ?_
      exact hE _ _ _ _ hf dX9_fires_27 rfl
  · have hf := gx_it c_5 hf
    refine j_iconst (v := 1) (pc := 8) g dX9_fires_8 (by decide) ?_
    exact hE _ _ _ _ hf dX9_fires_9 rfl

set_option maxRecDepth 100000 in
set_option maxHeartbeats 4000000 in
theorem cX9_sends_ {D : va_G} {t : Nat → ClassId} {E : gx_E} {l : Launch} {ad : Nat → Nat} {rs : va_W} {σ : OS} {p1 : Int32} {p2 : Int32} {p3 : Int32} {q : (Int32 × OS)} (hf : fX9_sends σ p1 p2 p3 = some q) : gx_C D t E l yX9_sends cX9_sends 5 (some .int) 2 45 [.ref (ad 0), .int p1, .int p2, .int p3] (mC ad t σ ++ rs) (mC ad t q.2 ++ rs) (some (.int q.1)) := by
  refine gx_intro_i (by decide) (Nat.le_of_ble_eq_true rfl) (fun J g hE0 => ?_)
  have hE : ∀ (v : Int32) (σ : OS) (pc : Nat) (L : List (Nat × Value)), some (v, σ) = some q → decode cX9_sends pc = .ok (.ireturn, 1) → narrow .int (.int v) = .int v → J 0 0 (mC ad t σ ++ rs) pc L [.int v] := fun v σ pc L h h1 h2 => by cases h; exact hE0 pc L h1 h2
  unfold fX9_sends at hf
  show J 0 0 (mC ad t σ ++ rs) 0 [(0, .ref (ad 0)), (1, .int p1), (2, .int p2), (3, .int p3)] []
  refine j_aload_n (pc := 0) g 0 dX9_sends_0 rfl ?_
  refine j_iload_n (pc := 1) g 1 dX9_sends_1 rfl ?_
  obtain ⟨r2, h_2, hf⟩ := gx_bs hf
  refine m9c_X9_is (pc := 2) g ⟨Nat.le_of_ble_eq_true rfl, Nat.le_of_ble_eq_true rfl⟩ ⟨Nat.zero_le _, Nat.zero_le _⟩ (Nat.le_of_ble_eq_true rfl) h_2 dX9_sends_2 ?_
  refine j_if_eq (tgt := 16) (pc := 5) g dX9_sends_5 (by decide) (fun c_5 => ?_) (fun c_5 => ?_)
  · have hf := gx_it c_5 hf
    refine j_iconst (v := 1) (pc := 16) g dX9_sends_16 (by decide) ?_
    exact hE _ _ _ _ hf dX9_sends_17 rfl
  · have hf := gx_if c_5 hf
    refine j_aload_n (pc := 8) g 0 dX9_sends_8 rfl ?_
    refine j_iload_n (pc := 9) g 2 dX9_sends_9 rfl ?_
    obtain ⟨r10, h_10, hf⟩ := gx_bs hf
    refine m9c_X9_is (pc := 10) g ⟨Nat.le_of_ble_eq_true rfl, Nat.le_of_ble_eq_true rfl⟩ ⟨Nat.zero_le _, Nat.zero_le _⟩ (Nat.le_of_ble_eq_true rfl) h_10 dX9_sends_10 ?_
    refine j_if_ne (tgt := 18) (pc := 13) g dX9_sends_13 (by decide) (fun c_13 => ?_) (fun c_13 => ?_)
    · have hf := gx_if c_13 hf
      refine j_iload_n (pc := 18) g 3 dX9_sends_18 rfl ?_
      refine j_iconst (v := 0) (pc := 19) g dX9_sends_19 (by decide) ?_
      refine j_bipush (v := 100) (pc := 20) g dX9_sends_20 (by decide) ?_
      obtain ⟨r22, h_22, hf⟩ := gx_bs hf
      refine m9c_X9_in (pc := 22) g ⟨Nat.le_of_ble_eq_true rfl, Nat.le_of_ble_eq_true rfl⟩ ⟨Nat.zero_le _, Nat.zero_le _⟩ (Nat.le_of_ble_eq_true rfl) h_22 dX9_sends_22 ?_
      refine j_if_ne (tgt := 30) (pc := 25) g dX9_sends_25 (by decide) (fun c_25 => ?_) (fun c_25 => ?_)
      · have hf := gx_if c_25 hf
        refine j_aload_n (pc := 30) g 0 dX9_sends_30 rfl ?_
        refine j_iload_n (pc := 31) g 1 dX9_sends_31 rfl ?_
        refine j_iload_n (pc := 32) g 2 dX9_sends_32 rfl ?_
        obtain ⟨r33, h_33, hf⟩ := gx_bs hf
        refine m9c_X9_above (pc := 33) g ⟨Nat.le_of_ble_eq_true rfl, Nat.le_of_ble_eq_true rfl⟩ ⟨Nat.zero_le _, Nat.zero_le _⟩ (Nat.le_of_ble_eq_true rfl) h_33 dX9_sends_33 ?_
        refine j_if_ne (tgt := 41) (pc := 36) g dX9_sends_36 (by decide) (fun c_36 => ?_) (fun c_36 => ?_)
        · have hf := gx_if c_36 hf
          refine j_aload_n (pc := 41) g 0 dX9_sends_41 rfl ?_
          refine m9g_1 (pc := 42) g dX9_sends_42 ?_
          refine j_iconst (v := 5) (pc := 45) g dX9_sends_45 (by decide) ?_
          obtain ⟨h_46, hf⟩ := gx_ck hf
          refine m9l_1 (pc := 46) g h_46 dX9_sends_46 ?_
          refine j_istore (L' := [(4, .int (os_a σ 1 (5 : Int32).toNatClampNeg)), (0, .ref (ad 0)), (1, .int p1), (2, .int p2), (3, .int p3)]) (pc := 47) g dX9_sends_47 (Nat.le_of_ble_eq_true rfl) rfl ?_
          refine j_iload (pc := 49) g 0 dX9_sends_49 rfl ?_
          refine j_bipush (v := 6) (pc := 51) g dX9_sends_51 (by decide) ?_
          refine j_icmp_ne (tgt := 58) (pc := 53) g dX9_sends_53 (by decide) (fun c_53 => ?_) (fun c_53 => ?_)
          · have hf := gx_if c_53 hf
            refine j_aload_n (pc := 58) g 1 dX9_sends_58 rfl ?_
            refine m9g_1 (pc := 59) g dX9_sends_59 ?_
            refine j_bipush (v := 67) (pc := 62) g dX9_sends_62 (by decide) ?_
            refine j_iconst (v := 4) (pc := 64) g dX9_sends_64 (by decide) ?_
            refine j_iload (pc := 65) g 0 dX9_sends_65 rfl ?_
            refine j_imul (pc := 67) g dX9_sends_67 ?_
            refine j_iadd (pc := 68) g dX9_sends_68 ?_
            refine j_iconst (v := 0) (pc := 69) g dX9_sends_69 (by decide) ?_
            refine j_iadd (pc := 70) g dX9_sends_70 ?_
            refine j_iload_n (pc := 71) g 2 dX9_sends_71 rfl ?_
            obtain ⟨h_72, hf⟩ := gx_ck hf
            refine m9s_1 (pc := 72) g h_72 dX9_sends_72 ?_
            refine j_aload_n (pc := 73) g 1 dX9_sends_73 rfl ?_
            refine m9g_1 (pc := 74) g dX9_sends_74 ?_
            refine j_bipush (v := 67) (pc := 77) g dX9_sends_77 (by decide) ?_
            refine j_iconst (v := 4) (pc := 79) g dX9_sends_79 (by decide) ?_
            refine j_iload (pc := 80) g 0 dX9_sends_80 rfl ?_
            refine j_imul (pc := 82) g dX9_sends_82 ?_
            refine j_iadd (pc := 83) g dX9_sends_83 ?_
            refine j_iconst (v := 1) (pc := 84) g dX9_sends_84 (by decide) ?_
            refine j_iadd (pc := 85) g dX9_sends_85 ?_
            refine j_iload_n (pc := 86) g 3 dX9_sends_86 rfl ?_
            obtain ⟨h_87, hf⟩ := gx_ck hf
            refine m9s_1 (pc := 87) g h_87 dX9_sends_87 ?_
            refine j_aload_n (pc := 88) g 1 dX9_sends_88 rfl ?_
            refine m9g_1 (pc := 89) g dX9_sends_89 ?_
            refine j_bipush (v := 67) (pc := 92) g dX9_sends_92 (by decide) ?_
            refine j_iconst (v := 4) (pc := 94) g dX9_sends_94 (by decide) ?_
            refine j_iload (pc := 95) g 0 dX9_sends_95 rfl ?_
            refine j_imul (pc := 97) g dX9_sends_97 ?_
            refine j_iadd (pc := 98) g dX9_sends_98 ?_
            refine j_iconst (v := 2) (pc := 99) g dX9_sends_99 (by decide) ?_
            refine j_iadd (pc := 100) g dX9_sends_100 ?_
            refine j_iload_n (pc := 101) g 4 dX9_sends_101 rfl ?_
            obtain ⟨h_102, hf⟩ := gx_ck hf
            refine m9s_1 (pc := 102) g h_102 dX9_sends_102 ?_
            refine j_aload_n (pc := 103) g 1 dX9_sends_103 rfl ?_
            refine m9g_1 (pc := 104) g dX9_sends_104 ?_
            refine j_bipush (v := 67) (pc := 107) g dX9_sends_107 (by decide) ?_
            refine j_iconst (v := 4) (pc := 109) g dX9_sends_109 (by decide) ?_
            refine j_iload (pc := 110) g 0 dX9_sends_110 rfl ?_
            refine j_imul (pc := 112) g dX9_sends_112 ?_
            refine j_iadd (pc := 113) g dX9_sends_113 ?_
            refine j_iconst (v := 3) (pc := 114) g dX9_sends_114 (by decide) ?_
            refine j_iadd (pc := 115) g dX9_sends_115 ?_
            refine j_iconst (v := 0) (pc := 116) g dX9_sends_116 (by decide) ?_
            obtain ⟨h_117, hf⟩ := gx_ck hf
            refine m9s_1 (pc := 117) g h_117 dX9_sends_117 ?_
            refine j_aload_n (pc := 118) g 1 dX9_sends_118 rfl ?_
            refine m9g_1 (pc := 119) g dX9_sends_119 ?_
            refine j_iconst (v := 5) (pc := 122) g dX9_sends_122 (by decide) ?_
            refine j_iload (pc := 123) g 0 dX9_sends_123 rfl ?_
            refine j_iconst (v := 1) (pc := 125) g dX9_sends_125 (by decide) ?_
            refine j_iadd (pc := 126) g dX9_sends_126 ?_
            obtain ⟨h_127, hf⟩ := gx_ck hf
            refine m9s_1 (pc := 127) g h_127 dX9_sends_127 ?_
            refine j_aload_n (pc := 128) g 1 dX9_sends_128 rfl ?_
            refine j_iload (pc := 129) g 0 dX9_sends_129 rfl ?_
            obtain ⟨r131, h_131, hf⟩ := gx_bs hf
            refine m9c_X9_done (pc := 131) g ⟨Nat.le_of_ble_eq_true rfl, Nat.le_of_ble_eq_true rfl⟩ ⟨Nat.zero_le _, Nat.zero_le _⟩ (Nat.le_of_ble_eq_true rfl) h_131 dX9_sends_131 ?_
            exact hE _ _ _ _ hf dX9_sends_134 rfl
          · have hf := gx_it c_53 hf
            refine j_iconst (v := 4) (pc := 56) g dX9_sends_56 (by decide) ?_
            exact hE _ _ _ _ hf dX9_sends_57 rfl
        · have hf := gx_it c_36 hf
          refine j_iconst (v := 3) (pc := 39) g dX9_sends_39 (by decide) ?_
          exact hE _ _ _ _ hf dX9_sends_40 rfl
      · have hf := gx_it c_25 hf
        refine j_iconst (v := 2) (pc := 28) g dX9_sends_28 (by decide) ?_
        exact hE _ _ _ _ hf dX9_sends_29 rfl
    · have hf := gx_it c_13 hf
      refine j_iconst (v := 1) (pc := 16) g dX9_sends_16 (by decide) ?_
      exact hE _ _ _ _ hf dX9_sends_17 rfl
theorem m9c_X9_next {D : va_G} {t : Nat → ClassId} {E : gx_E} {l : Launch} {R : Room} {cc : ByteArray} {nL : Nat} {J : gx_J} {ad : Nat → Nat} {rs : va_W} {k n pc : Nat} {L : List (Nat × Value)} {rest : List Value} (g : gx_G D t E l R cc RX9 nL J) {σ : OS} {x0 : Int32} {x1 : Int32} {q : Int32} (hR : 1 + 1 ≤ R.frames ∧ 8 + (4 + 11) + 22 ≤ R.locals) (hkn : k ≤ R.cells ∧ n ≤ R.slots) (hcat : (rest.map fun v => v.category).sum ≤ 8) (hf : fX9_next σ x0 x1 = some q) (hd : decode cc pc = .ok (.invokevirtual 93, 3)) (kk : J k n (mC ad t σ ++ rs) (pc + 3) L (.int q :: rest)) : J k n (mC ad t σ ++ rs) pc L (.int x1 :: .int x0 :: .ref (ad 0) :: rest) := j_callVi (na := 2) (As := [.int x0, .int x1]) (q0 := 0) (ci := 10) g (cX9_next_  hf) q_i_X9_next q_s_X9_next rfl rfl rfl q_c_X9_next q_l_X9_93 q_n_X9 (by decide +kernel) rfl hR hkn hcat (.refl _) (.refl _) hd kk rfl
set_option maxRecDepth 100000 in
set_option maxHeartbeats 4000000 in
theorem tX9_visits_46 {D : va_G} {t : Nat → ClassId} {E : gx_E} {l : Launch} {J : gx_J} {ad : Nat → Nat} {rs : va_W} {q : (Int32 × OS)} (g : gx_G D t E l ({ frames := 3, cells := 0, slots := 0, locals := 69 }) cX9_visits RX9 6 J) (hE : ∀ (v : Int32) (σ : OS) (pc : Nat) (L : List (Nat × Value)), some (v, σ) = some q → decode cX9_visits pc = .ok (.ireturn, 1) → narrow .boolean (.int v) = .int v → J 0 0 (mC ad t σ ++ rs) pc L [.int v])  : ∀ (σ : OS) (v1 : Int32), fX9_visits_46 σ v1 = some q → J 0 0 (mC ad t σ ++ rs) 46 [(0, .ref (ad 0)), (1, .int v1)] [] := by
  intro σ v1 hf
  unfold fX9_visits_46 at hf
  refine j_aload_n (pc := 46) g 0 dX9_visits_46 rfl ?_
  refine m9g_1 (pc := 47) g dX9_visits_47 ?_
  refine j_iconst (v := 4) (pc := 50) g dX9_visits_50 (by decide) ?_
  refine j_dup2 (pc := 51) g dX9_visits_51 rfl rfl ?_
  obtain ⟨h_52, hf⟩ := gx_ck hf
  refine m9l_1 (pc := 52) g h_52 dX9_visits_52 ?_
  refine j_iconst (v := 1) (pc := 53) g dX9_visits_53 (by decide) ?_
  refine j_iadd (pc := 54) g dX9_visits_54 ?_
  obtain ⟨h_55, hf⟩ := gx_ck hf
  refine m9s_1 (pc := 55) g h_55 dX9_visits_55 ?_
  refine j_aload_n (pc := 56) g 0 dX9_visits_56 rfl ?_
  refine j_iload_n (pc := 57) g 1 dX9_visits_57 rfl ?_
  obtain ⟨r58, h_58, hf⟩ := gx_bs hf
  refine m9c_X9_drops (pc := 58) g ⟨Nat.le_of_ble_eq_true rfl, Nat.le_of_ble_eq_true rfl⟩ ⟨Nat.zero_le _, Nat.zero_le _⟩ (Nat.le_of_ble_eq_true rfl) h_58 dX9_visits_58 ?_
  refine j_iconst (v := 1) (pc := 61) g dX9_visits_61 (by decide) ?_
  exact hE _ _ _ _ hf dX9_visits_62 rfl
set_option maxRecDepth 100000 in
set_option maxHeartbeats 4000000 in
theorem cX9_visits_ {D : va_G} {t : Nat → ClassId} {E : gx_E} {l : Launch} {ad : Nat → Nat} {rs : va_W} {σ : OS} {p1 : Int32} {q : (Int32 × OS)} (hf : fX9_visits σ p1 = some q) : gx_C D t E l yX9_visits cX9_visits 6 (some .boolean) 3 69 [.ref (ad 0), .int p1] (mC ad t σ ++ rs) (mC ad t q.2 ++ rs) (some (.int q.1)) := by
  refine gx_intro_i (by decide) (Nat.le_of_ble_eq_true rfl) (fun J g hE0 => ?_)
  have hE : ∀ (v : Int32) (σ : OS) (pc : Nat) (L : List (Nat × Value)), some (v, σ) = some q → decode cX9_visits pc = .ok (.ireturn, 1) → narrow .boolean (.int v) = .int v → J 0 0 (mC ad t σ ++ rs) pc L [.int v] := fun v σ pc L h h1 h2 => by cases h; exact hE0 pc L h1 h2
  unfold fX9_visits at hf
  show J 0 0 (mC ad t σ ++ rs) 0 [(0, .ref (ad 0)), (1, .int p1)] []
  refine j_aload_n (pc := 0) g 0 dX9_visits_0 rfl ?_
  refine j_iload_n (pc := 1) g 1 dX9_visits_1 rfl ?_
  refine j_iconst (v := 0) (pc := 2) g dX9_visits_2 (by decide) ?_
  obtain ⟨r3, h_3, hf⟩ := gx_bs hf
  refine m9c_X9_order (pc := 3) g ⟨Nat.le_of_ble_eq_true rfl, Nat.le_of_ble_eq_true rfl⟩ ⟨Nat.zero_le _, Nat.zero_le _⟩ (Nat.le_of_ble_eq_true rfl) h_3 dX9_visits_3 ?_
  refine j_istore_n (L' := [(2, .int r3), (0, .ref (ad 0)), (1, .int p1)]) (pc := 6) g dX9_visits_6 rfl (Nat.le_of_ble_eq_true rfl) rfl ?_
  refine j_aload_n (pc := 7) g 1 dX9_visits_7 rfl ?_
  refine j_iload_n (pc := 8) g 2 dX9_visits_8 rfl ?_
  refine j_iconst (v := 1) (pc := 9) g dX9_visits_9 (by decide) ?_
  obtain ⟨r10, h_10, hf⟩ := gx_bs hf
  refine m9c_X9_order (pc := 10) g ⟨Nat.le_of_ble_eq_true rfl, Nat.le_of_ble_eq_true rfl⟩ ⟨Nat.zero_le _, Nat.zero_le _⟩ (Nat.le_of_ble_eq_true rfl) h_10 dX9_visits_10 ?_
  refine j_istore_n (L' := [(3, .int r10), (2, .int r3), (0, .ref (ad 0)), (1, .int p1)]) (pc := 13) g dX9_visits_13 rfl (Nat.le_of_ble_eq_true rfl) rfl ?_
  refine j_aload_n (pc := 14) g 2 dX9_visits_14 rfl ?_
  refine m9g_1 (pc := 15) g dX9_visits_15 ?_
  refine j_bipush (v := 67) (pc := 18) g dX9_visits_18 (by decide) ?_
  refine j_iconst (v := 4) (pc := 20) g dX9_visits_20 (by decide) ?_
  refine j_iload_n (pc := 21) g 3 dX9_visits_21 rfl ?_
  refine j_imul (pc := 22) g dX9_visits_22 ?_
  refine j_iadd (pc := 23) g dX9_visits_23 ?_
  refine j_iconst (v := 3) (pc := 24) g dX9_visits_24 (by decide) ?_
  refine j_iadd (pc := 25) g dX9_visits_25 ?_
  refine j_iconst (v := 1) (pc := 26) g dX9_visits_26 (by decide) ?_
  obtain ⟨h_27, hf⟩ := gx_ck hf
  refine m9s_1 (pc := 27) g h_27 dX9_visits_27 ?_
  refine j_aload_n (pc := 28) g 2 dX9_visits_28 rfl ?_
  refine j_iload_n (pc := 29) g 0 dX9_visits_29 rfl ?_
  refine j_iconst (v := 0) (pc := 30) g dX9_visits_30 (by decide) ?_
  obtain ⟨r31, h_31, hf⟩ := gx_bs hf
  refine m9c_X9_of (pc := 31) g ⟨Nat.le_of_ble_eq_true rfl, Nat.le_of_ble_eq_true rfl⟩ ⟨Nat.zero_le _, Nat.zero_le _⟩ (Nat.le_of_ble_eq_true rfl) h_31 dX9_visits_31 ?_
  refine j_if_eq (tgt := 46) (pc := 34) g dX9_visits_34 (by decide) (fun c_34 => ?_) (fun c_34 => ?_)
  · have hf := gx_it c_34 hf
    refine j_sub (pc := 46) g [2, 3] rfl ?_
    exact tX9_visits_46 g hE (os_sa σ 1 (((67 : Int32) + ((4 : Int32) * p1)) + (3 : Int32)).toNatClampNeg (1 : Int32)) p1 hf
  · have hf := gx_if c_34 hf
    refine j_aload_n (pc := 37) g 2 dX9_visits_37 rfl ?_
    refine j_iload_n (pc := 38) g 1 dX9_visits_38 rfl ?_
    refine j_iload_n (pc := 39) g 0 dX9_visits_39 rfl ?_
    obtain ⟨r40, h_40, hf⟩ := gx_bs hf
    refine m9c_X9_above (pc := 40) g ⟨Nat.le_of_ble_eq_true rfl, Nat.le_of_ble_eq_true rfl⟩ ⟨Nat.zero_le _, Nat.zero_le _⟩ (Nat.le_of_ble_eq_true rfl) h_40 dX9_visits_40 ?_
    refine j_if_ne (tgt := 63) (pc := 43) g dX9_visits_43 (by decide) (fun c_43 => ?_) (fun c_43 => ?_)
    · have hf := gx_if c_43 hf
      refine j_aload_n (pc := 63) g 2 dX9_visits_63 rfl ?_
      refine j_iload_n (pc := 64) g 1 dX9_visits_64 rfl ?_
      refine j_iload_n (pc := 65) g 0 dX9_visits_65 rfl ?_
      obtain ⟨r66, h_66, hf⟩ := gx_bs hf
      refine m9c_X9_next (pc := 66) g ⟨Nat.le_of_ble_eq_true rfl, Nat.le_of_ble_eq_true rfl⟩ ⟨Nat.zero_le _, Nat.zero_le _⟩ (Nat.le_of_ble_eq_true rfl) h_66 dX9_visits_66 ?_
      refine j_istore (L' := [(4, .int r66), (3, .int r10), (2, .int r3), (0, .ref (ad 0)), (1, .int p1)]) (pc := 69) g dX9_visits_69 (Nat.le_of_ble_eq_true rfl) rfl ?_
      refine j_aload_n (pc := 71) g 3 dX9_visits_71 rfl ?_
      refine j_iload (pc := 72) g 0 dX9_visits_72 rfl ?_
      refine j_iconst (v := 2) (pc := 74) g dX9_visits_74 (by decide) ?_
      obtain ⟨r75, h_75, hf⟩ := gx_bs hf
      refine m9c_X9_of (pc := 75) g ⟨Nat.le_of_ble_eq_true rfl, Nat.le_of_ble_eq_true rfl⟩ ⟨Nat.zero_le _, Nat.zero_le _⟩ (Nat.le_of_ble_eq_true rfl) h_75 dX9_visits_75 ?_
      refine j_aload_n (pc := 78) g 3 dX9_visits_78 rfl ?_
      refine j_iload_n (pc := 79) g 4 dX9_visits_79 rfl ?_
      refine j_iconst (v := 2) (pc := 80) g dX9_visits_80 (by decide) ?_
      obtain ⟨r81, h_81, hf⟩ := gx_bs hf
      refine m9c_X9_order (pc := 81) g ⟨Nat.le_of_ble_eq_true rfl, Nat.le_of_ble_eq_true rfl⟩ ⟨Nat.zero_le _, Nat.zero_le _⟩ (Nat.le_of_ble_eq_true rfl) h_81 dX9_visits_81 ?_
      refine j_icmp_ge (tgt := 143) (pc := 84) g dX9_visits_84 (by decide) (fun c_84 => ?_) (fun c_84 => ?_)
      · have hf := gx_it c_84 hf
        refine j_iload (pc := 143) g 0 dX9_visits_143 rfl ?_
        refine j_iload_n (pc := 145) g 1 dX9_visits_145 rfl ?_
        refine j_icmp_eq (tgt := 166) (pc := 146) g dX9_visits_146 (by decide) (fun c_146 => ?_) (fun c_146 => ?_)
        · have hf := gx_it c_146 hf
          refine j_aload_n (pc := 166) g 3 dX9_visits_166 rfl ?_
          refine j_iload_n (pc := 167) g 4 dX9_visits_167 rfl ?_
          obtain ⟨r168, h_168, hf⟩ := gx_bs hf
          refine m9c_X9_drops (pc := 168) g ⟨Nat.le_of_ble_eq_true rfl, Nat.le_of_ble_eq_true rfl⟩ ⟨Nat.zero_le _, Nat.zero_le _⟩ (Nat.le_of_ble_eq_true rfl) h_168 dX9_visits_168 ?_
          refine j_aload_n (pc := 171) g 3 dX9_visits_171 rfl ?_
          refine m9g_1 (pc := 172) g dX9_visits_172 ?_
          refine j_iconst (v := 2) (pc := 175) g dX9_visits_175 (by decide) ?_
          refine j_dup2 (pc := 176) g dX9_visits_176 rfl rfl ?_
          obtain ⟨h_177, hf⟩ := gx_ck hf
          refine m9l_1 (pc := 177) g h_177 dX9_visits_177 ?_
          refine j_iconst (v := 1) (pc := 178) g dX9_visits_178 (by decide) ?_
          refine j_iadd (pc := 179) g dX9_visits_179 ?_
          obtain ⟨h_180, hf⟩ := gx_ck hf
          refine m9s_1 (pc := 180) g h_180 dX9_visits_180 ?_
          refine j_aload_n (pc := 181) g 3 dX9_visits_181 rfl ?_
          refine j_iload_n (pc := 182) g 1 dX9_visits_182 rfl ?_
          refine j_iconst (v := 2) (pc := 183) g dX9_visits_183 (by decide) ?_
          refine j_aload_n (pc := 184) g 3 dX9_visits_184 rfl ?_
          refine j_iload_n (pc := 185) g 1 dX9_visits_185 rfl ?_
          refine j_iconst (v := 2) (pc := 186) g dX9_visits_186 (by decide) ?_
          obtain ⟨r187, h_187, hf⟩ := gx_bs hf
          refine m9c_X9_of (pc := 187) g ⟨Nat.le_of_ble_eq_true rfl, Nat.le_of_ble_eq_true rfl⟩ ⟨Nat.zero_le _, Nat.zero_le _⟩ (Nat.le_of_ble_eq_true rfl) h_187 dX9_visits_187 ?_
          refine j_iconst (v := 2) (pc := 190) g dX9_visits_190 (by decide) ?_
          refine j_iadd (pc := 191) g dX9_visits_191 ?_
          refine j_bipush (v := 100) (pc := 192) g dX9_visits_192 (by decide) ?_
          refine j_icmp_le (tgt := 202) (pc := 194) g dX9_visits_194 (by decide) (fun c_194 => ?_) (fun c_194 => ?_)
          · have hf := gx_it c_194 hf
            refine j_aload_n (pc := 202) g 3 dX9_visits_202 rfl ?_
            refine j_iload_n (pc := 203) g 1 dX9_visits_203 rfl ?_
            refine j_iconst (v := 2) (pc := 204) g dX9_visits_204 (by decide) ?_
            obtain ⟨r205, h_205, hf⟩ := gx_bs hf
            refine m9c_X9_of (pc := 205) g ⟨Nat.le_of_ble_eq_true rfl, Nat.le_of_ble_eq_true rfl⟩ ⟨Nat.zero_le _, Nat.zero_le _⟩ (Nat.le_of_ble_eq_true rfl) h_205 dX9_visits_205 ?_
            refine j_iconst (v := 2) (pc := 208) g dX9_visits_208 (by decide) ?_
            refine j_iadd (pc := 209) g dX9_visits_209 ?_
            obtain ⟨r210, h_210, hf⟩ := gx_bs hf
            refine m9c_X9_sets (pc := 210) g ⟨Nat.le_of_ble_eq_true rfl, Nat.le_of_ble_eq_true rfl⟩ ⟨Nat.zero_le _, Nat.zero_le _⟩ (Nat.le_of_ble_eq_true rfl) h_210 dX9_visits_210 ?_
            refine j_iconst (v := 1) (pc := 213) g dX9_visits_213 (by decide) ?_
            exact hE _ _ _ _ hf dX9_visits_214 rfl
          · have hf := gx_if c_194 hf
            refine j_bipush (v := 100) (pc := 197) g dX9_visits_197 (by decide) ?_
            refine j_goto (tgt := 210) (pc := 199) g dX9_visits_199 (by decide) ?_
            obtain ⟨r210, h_210, hf⟩ := gx_bs hf
            refine m9c_X9_sets (pc := 210) g ⟨Nat.le_of_ble_eq_true rfl, Nat.le_of_ble_eq_true rfl⟩ ⟨Nat.zero_le _, Nat.zero_le _⟩ (Nat.le_of_ble_eq_true rfl) h_210 dX9_visits_210 ?_
            refine j_iconst (v := 1) (pc := 213) g dX9_visits_213 (by decide) ?_
            exact hE _ _ _ _ hf dX9_visits_214 rfl
        · have hf := gx_if c_146 hf
          refine j_aload_n (pc := 149) g 3 dX9_visits_149 rfl ?_
          refine m9g_1 (pc := 150) g dX9_visits_150 ?_
          refine j_bipush (v := 67) (pc := 153) g dX9_visits_153 (by decide) ?_
          refine j_iconst (v := 4) (pc := 155) g dX9_visits_155 (by decide) ?_
          refine j_iload_n (pc := 156) g 4 dX9_visits_156 rfl ?_
          refine j_imul (pc := 157) g dX9_visits_157 ?_
          refine j_iadd (pc := 158) g dX9_visits_158 ?_
          refine j_iconst (v := 0) (pc := 159) g dX9_visits_159 (by decide) ?_
          refine j_iadd (pc := 160) g dX9_visits_160 ?_
          refine j_iload (pc := 161) g 0 dX9_visits_161 rfl ?_
          obtain ⟨h_163, hf⟩ := gx_ck hf
          refine m9s_1 (pc := 163) g h_163 dX9_visits_163 ?_
          refine j_iconst (v := 0) (pc := 164) g dX9_visits_164 (by decide) ?_
          exact hE _ _ _ _ hf dX9_visits_165 rfl
      · have hf := gx_if c_84 hf
        refine j_aload_n (pc := 87) g 3 dX9_visits_87 rfl ?_
        refine j_iload_n (pc := 88) g 4 dX9_visits_88 rfl ?_
        obtain ⟨r89, h_89, hf⟩ := gx_bs hf
        refine m9c_X9_drops (pc := 89) g ⟨Nat.le_of_ble_eq_true rfl, Nat.le_of_ble_eq_true rfl⟩ ⟨Nat.zero_le _, Nat.zero_le _⟩ (Nat.le_of_ble_eq_true rfl) h_89 dX9_visits_89 ?_
        refine j_aload_n (pc := 92) g 3 dX9_visits_92 rfl ?_
        refine m9g_1 (pc := 93) g dX9_visits_93 ?_
        refine j_iconst (v := 3) (pc := 96) g dX9_visits_96 (by decide) ?_
        refine j_dup2 (pc := 97) g dX9_visits_97 rfl rfl ?_
        obtain ⟨h_98, hf⟩ := gx_ck hf
        refine m9l_1 (pc := 98) g h_98 dX9_visits_98 ?_
        refine j_iconst (v := 1) (pc := 99) g dX9_visits_99 (by decide) ?_
        refine j_iadd (pc := 100) g dX9_visits_100 ?_
        obtain ⟨h_101, hf⟩ := gx_ck hf
        refine m9s_1 (pc := 101) g h_101 dX9_visits_101 ?_
        refine j_aload_n (pc := 102) g 3 dX9_visits_102 rfl ?_
        refine j_iload (pc := 103) g 0 dX9_visits_103 rfl ?_
        refine j_iconst (v := 3) (pc := 105) g dX9_visits_105 (by decide) ?_
        refine j_aload_n (pc := 106) g 3 dX9_visits_106 rfl ?_
        refine j_iload (pc := 107) g 0 dX9_visits_107 rfl ?_
        refine j_iconst (v := 3) (pc := 109) g dX9_visits_109 (by decide) ?_
        obtain ⟨r110, h_110, hf⟩ := gx_bs hf
        refine m9c_X9_of (pc := 110) g ⟨Nat.le_of_ble_eq_true rfl, Nat.le_of_ble_eq_true rfl⟩ ⟨Nat.zero_le _, Nat.zero_le _⟩ (Nat.le_of_ble_eq_true rfl) h_110 dX9_visits_110 ?_
        refine j_iconst (v := 1) (pc := 113) g dX9_visits_113 (by decide) ?_
        refine j_iadd (pc := 114) g dX9_visits_114 ?_
        obtain ⟨r115, h_115, hf⟩ := gx_bs hf
        refine m9c_X9_sets (pc := 115) g ⟨Nat.le_of_ble_eq_true rfl, Nat.le_of_ble_eq_true rfl⟩ ⟨Nat.zero_le _, Nat.zero_le _⟩ (Nat.le_of_ble_eq_true rfl) h_115 dX9_visits_115 ?_
        refine j_aload_n (pc := 118) g 3 dX9_visits_118 rfl ?_
        refine j_iload (pc := 119) g 0 dX9_visits_119 rfl ?_
        refine j_iconst (v := 3) (pc := 121) g dX9_visits_121 (by decide) ?_
        obtain ⟨r122, h_122, hf⟩ := gx_bs hf
        refine m9c_X9_of (pc := 122) g ⟨Nat.le_of_ble_eq_true rfl, Nat.le_of_ble_eq_true rfl⟩ ⟨Nat.zero_le _, Nat.zero_le _⟩ (Nat.le_of_ble_eq_true rfl) h_122 dX9_visits_122 ?_
        refine j_iconst (v := 3) (pc := 125) g dX9_visits_125 (by decide) ?_
        refine j_icmp_ne (tgt := 138) (pc := 126) g dX9_visits_126 (by decide) (fun c_126 => ?_) (fun c_126 => ?_)
        · have hf := gx_if c_126 hf
          refine j_iconst (v := 0) (pc := 138) g dX9_visits_138 (by decide) ?_
          refine j_istore (L' := [(5, .int (0 : Int32)), (4, .int r66), (3, .int r10), (2, .int r3), (0, .ref (ad 0)), (1, .int p1)]) (pc := 139) g dX9_visits_139 (Nat.le_of_ble_eq_true rfl) rfl ?_
          refine j_iconst (v := 1) (pc := 141) g dX9_visits_141 (by decide) ?_
          exact hE _ _ _ _ hf dX9_visits_142 rfl
        · have hf := gx_it c_126 hf
          refine j_aload_n (pc := 129) g 3 dX9_visits_129 rfl ?_
          refine j_iload (pc := 130) g 0 dX9_visits_130 rfl ?_
          obtain ⟨r132, h_132, hf⟩ := gx_bs hf
          refine m9c_X9_leaves (pc := 132) g ⟨Nat.le_of_ble_eq_true rfl, Nat.le_of_ble_eq_true rfl⟩ ⟨Nat.zero_le _, Nat.zero_le _⟩ (Nat.le_of_ble_eq_true rfl) h_132 dX9_visits_132 ?_
          refine j_goto (tgt := 139) (pc := 135) g dX9_visits_135 (by decide) ?_
          refine j_istore (L' := [(5, .int r132.1), (4, .int r66), (3, .int r10), (2, .int r3), (0, .ref (ad 0)), (1, .int p1)]) (pc := 139) g dX9_visits_139 (Nat.le_of_ble_eq_true rfl) rfl ?_
          refine j_iconst (v := 1) (pc := 141) g dX9_visits_141 (by decide) ?_
          exact hE _ _ _ _ hf dX9_visits_142 rfl
    · have hf := gx_it c_43 hf
      refine j_sub (pc := 46) g [2, 3] rfl ?_
      exact tX9_visits_46 g hE (os_sa σ 1 (((67 : Int32) + ((4 : Int32) * p1)) + (3 : Int32)).toNatClampNeg (1 : Int32)) p1 hf
theorem m9c_X9_visits {D : va_G} {t : Nat → ClassId} {E : gx_E} {l : Launch} {R : Room} {cc : ByteArray} {nL : Nat} {J : gx_J} {ad : Nat → Nat} {rs : va_W} {k n pc : Nat} {L : List (Nat × Value)} {rest : List Value} (g : gx_G D t E l R cc RX9 nL J) {σ : OS} {x0 : Int32} {q : (Int32 × OS)} (hR : 3 + 1 ≤ R.frames ∧ 8 + (6 + 11) + 69 ≤ R.locals) (hkn : k ≤ R.cells ∧ n ≤ R.slots) (hcat : (rest.map fun v => v.category).sum ≤ 8) (hf : fX9_visits σ x0 = some q) (hd : decode cc pc = .ok (.invokevirtual 96, 3)) (kk : J k n (mC ad t q.2 ++ rs) (pc + 3) L (.int q.1 :: rest)) : J k n (mC ad t σ ++ rs) pc L (.int x0 :: .ref (ad 0) :: rest) := j_callVi (na := 1) (As := [.int x0]) (q0 := 0) (ci := 10) g (cX9_visits_  hf) q_i_X9_visits q_s_X9_visits rfl rfl rfl q_c_X9_visits q_l_X9_96 q_n_X9 (by decide +kernel) rfl hR hkn hcat (.refl _) (.refl _) hd kk rfl
set_option maxRecDepth 100000 in
set_option maxHeartbeats 4000000 in
theorem tX9_oneHour_72 {D : va_G} {t : Nat → ClassId} {E : gx_E} {l : Launch} {J : gx_J} {ad : Nat → Nat} {rs : va_W} {q : OS} (g : gx_G D t E l ({ frames := 4, cells := 0, slots := 0, locals := 94 }) cX9_oneHour RX9 3 J) (hE : ∀ (σ : OS) (pc : Nat) (L : List (Nat × Value)), some σ = some q → decode cX9_oneHour pc = .ok (.return_, 1) → J 0 0 (mC ad t σ ++ rs) pc L [])  : ∀ (n : Nat) (σ : OS) (v2 : Int32), fX9_oneHour_72 n σ v2 = some q → J 0 0 (mC ad t σ ++ rs) 72 [(0, .ref (ad 0)), (2, .int v2)] [] := by
  intro n
  induction n with
  | zero => intro σ v2 hf; cases hf
  | succ n ih =>
    intro σ v2 hf
    replace hf := (fX9_oneHour_72_s n σ v2).symm.trans hf
    refine j_iload_n (pc := 72) g 1 dX9_oneHour_72 rfl ?_
    refine j_aload_n (pc := 73) g 0 dX9_oneHour_73 rfl ?_
    refine m9g_1 (pc := 74) g dX9_oneHour_74 ?_
    refine j_iconst (v := 5) (pc := 77) g dX9_oneHour_77 (by decide) ?_
    obtain ⟨h_78, hf⟩ := gx_ck hf
    refine m9l_1 (pc := 78) g h_78 dX9_oneHour_78 ?_
    refine j_icmp_ge (tgt := 102) (pc := 79) g dX9_oneHour_79 (by decide) (fun c_79 => ?_) (fun c_79 => ?_)
    · have hf := gx_it c_79 hf
      refine j_aload_n (pc := 102) g 0 dX9_oneHour_102 rfl ?_
      refine m9g_1 (pc := 103) g dX9_oneHour_103 ?_
      refine j_iconst (v := 1) (pc := 106) g dX9_oneHour_106 (by decide) ?_
      refine j_dup2 (pc := 107) g dX9_oneHour_107 rfl rfl ?_
      obtain ⟨h_108, hf⟩ := gx_ck hf
      refine m9l_1 (pc := 108) g h_108 dX9_oneHour_108 ?_
      refine j_iconst (v := 1) (pc := 109) g dX9_oneHour_109 (by decide) ?_
      refine j_iadd (pc := 110) g dX9_oneHour_110 ?_
      obtain ⟨h_111, hf⟩ := gx_ck hf
      refine m9s_1 (pc := 111) g h_111 dX9_oneHour_111 ?_
      exact hE _ _ _ hf dX9_oneHour_112
    · have hf := gx_if c_79 hf
      refine j_aload_n (pc := 82) g 0 dX9_oneHour_82 rfl ?_
      refine m9g_1 (pc := 83) g dX9_oneHour_83 ?_
      refine j_bipush (v := 67) (pc := 86) g dX9_oneHour_86 (by decide) ?_
      refine j_iconst (v := 4) (pc := 88) g dX9_oneHour_88 (by decide) ?_
      refine j_iload_n (pc := 89) g 1 dX9_oneHour_89 rfl ?_
      refine j_imul (pc := 90) g dX9_oneHour_90 ?_
      refine j_iadd (pc := 91) g dX9_oneHour_91 ?_
      refine j_iconst (v := 3) (pc := 92) g dX9_oneHour_92 (by decide) ?_
      refine j_iadd (pc := 93) g dX9_oneHour_93 ?_
      refine j_iconst (v := 0) (pc := 94) g dX9_oneHour_94 (by decide) ?_
      obtain ⟨h_95, hf⟩ := gx_ck hf
      refine m9s_1 (pc := 95) g h_95 dX9_oneHour_95 ?_
      refine j_iinc (v := v2 + 1) (L' := [(2, .int (v2 + 1)), (0, .ref (ad 0))]) (pc := 96) g 1 dX9_oneHour_96 rfl rfl (Nat.le_of_ble_eq_true rfl) rfl ?_
      refine j_goto (tgt := 72) (pc := 99) g dX9_oneHour_99 (by decide) ?_
      refine j_sub (pc := 72) g [1, 0] rfl ?_
      exact ih (os_sa σ 1 (((67 : Int32) + ((4 : Int32) * v2)) + (3 : Int32)).toNatClampNeg (0 : Int32)) (v2 + 1) hf
set_option maxRecDepth 100000 in
set_option maxHeartbeats 4000000 in
theorem tX9_oneHour_34 {D : va_G} {t : Nat → ClassId} {E : gx_E} {l : Launch} {J : gx_J} {ad : Nat → Nat} {rs : va_W} {q : OS} (g : gx_G D t E l ({ frames := 4, cells := 0, slots := 0, locals := 94 }) cX9_oneHour RX9 3 J) (hE : ∀ (σ : OS) (pc : Nat) (L : List (Nat × Value)), some σ = some q → decode cX9_oneHour pc = .ok (.return_, 1) → J 0 0 (mC ad t σ ++ rs) pc L [])  : ∀ (n : Nat) (σ : OS) (v1 : Int32), fX9_oneHour_34 n σ v1 = some q → J 0 0 (mC ad t σ ++ rs) 34 [(0, .ref (ad 0)), (1, .int v1)] [] := by
  intro n
  induction n with
  | zero => intro σ v1 hf; cases hf
  | succ n ih =>
    intro σ v1 hf
    replace hf := (fX9_oneHour_34_s n σ v1).symm.trans hf
    refine j_iload_n (pc := 34) g 1 dX9_oneHour_34 rfl ?_
    refine j_aload_n (pc := 35) g 0 dX9_oneHour_35 rfl ?_
    refine m9g_1 (pc := 36) g dX9_oneHour_36 ?_
    refine j_iconst (v := 5) (pc := 39) g dX9_oneHour_39 (by decide) ?_
    obtain ⟨h_40, hf⟩ := gx_ck hf
    refine m9l_1 (pc := 40) g h_40 dX9_oneHour_40 ?_
    refine j_icmp_ge (tgt := 70) (pc := 41) g dX9_oneHour_41 (by decide) (fun c_41 => ?_) (fun c_41 => ?_)
    · have hf := gx_it c_41 hf
      refine j_iconst (v := 0) (pc := 70) g dX9_oneHour_70 (by decide) ?_
      refine j_istore_n (L' := [(2, .int (0 : Int32)), (0, .ref (ad 0)), (1, .int v1)]) (pc := 71) g dX9_oneHour_71 rfl (Nat.le_of_ble_eq_true rfl) rfl ?_
      refine j_sub (pc := 72) g [1, 0] rfl ?_
      exact tX9_oneHour_72 g hE 2000 σ (0 : Int32) hf
    · have hf := gx_if c_41 hf
      refine j_aload_n (pc := 44) g 0 dX9_oneHour_44 rfl ?_
      refine j_iload_n (pc := 45) g 1 dX9_oneHour_45 rfl ?_
      refine j_iconst (v := 3) (pc := 46) g dX9_oneHour_46 (by decide) ?_
      obtain ⟨r47, h_47, hf⟩ := gx_bs hf
      refine m9c_X9_order (pc := 47) g ⟨Nat.le_of_ble_eq_true rfl, Nat.le_of_ble_eq_true rfl⟩ ⟨Nat.zero_le _, Nat.zero_le _⟩ (Nat.le_of_ble_eq_true rfl) h_47 dX9_oneHour_47 ?_
      refine j_if_ne (tgt := 64) (pc := 50) g dX9_oneHour_50 (by decide) (fun c_50 => ?_) (fun c_50 => ?_)
      · have hf := gx_if c_50 hf
        refine j_iinc (v := v1 + 1) (L' := [(1, .int (v1 + 1)), (0, .ref (ad 0))]) (pc := 64) g 1 dX9_oneHour_64 rfl rfl (Nat.le_of_ble_eq_true rfl) rfl ?_
        refine j_goto (tgt := 34) (pc := 67) g dX9_oneHour_67 (by decide) ?_
        refine j_sub (pc := 34) g [1, 0] rfl ?_
        exact ih σ (v1 + 1) hf
      · have hf := gx_it c_50 hf
        refine j_aload_n (pc := 53) g 0 dX9_oneHour_53 rfl ?_
        refine j_iload_n (pc := 54) g 1 dX9_oneHour_54 rfl ?_
        obtain ⟨r55, h_55, hf⟩ := gx_bs hf
        refine m9c_X9_visits (pc := 55) g ⟨Nat.le_of_ble_eq_true rfl, Nat.le_of_ble_eq_true rfl⟩ ⟨Nat.zero_le _, Nat.zero_le _⟩ (Nat.le_of_ble_eq_true rfl) h_55 dX9_oneHour_55 ?_
        refine j_istore_n (L' := [(2, .int r55.1), (0, .ref (ad 0)), (1, .int v1)]) (pc := 58) g dX9_oneHour_58 rfl (Nat.le_of_ble_eq_true rfl) rfl ?_
        refine j_iconst (v := 0) (pc := 59) g dX9_oneHour_59 (by decide) ?_
        refine j_istore_n (L' := [(1, .int (0 : Int32)), (2, .int r55.1), (0, .ref (ad 0))]) (pc := 60) g dX9_oneHour_60 rfl (Nat.le_of_ble_eq_true rfl) rfl ?_
        refine j_goto (tgt := 34) (pc := 61) g dX9_oneHour_61 (by decide) ?_
        refine j_sub (pc := 34) g [2, 0] rfl ?_
        exact ih r55.2 (0 : Int32) hf
set_option maxRecDepth 100000 in
set_option maxHeartbeats 4000000 in
theorem tX9_oneHour_2 {D : va_G} {t : Nat → ClassId} {E : gx_E} {l : Launch} {J : gx_J} {ad : Nat → Nat} {rs : va_W} {q : OS} (g : gx_G D t E l ({ frames := 4, cells := 0, slots := 0, locals := 94 }) cX9_oneHour RX9 3 J) (hE : ∀ (σ : OS) (pc : Nat) (L : List (Nat × Value)), some σ = some q → decode cX9_oneHour pc = .ok (.return_, 1) → J 0 0 (mC ad t σ ++ rs) pc L [])  : ∀ (n : Nat) (σ : OS) (v1 : Int32), fX9_oneHour_2 n σ v1 = some q → J 0 0 (mC ad t σ ++ rs) 2 [(0, .ref (ad 0)), (1, .int v1)] [] := by
  intro n
  induction n with
  | zero => intro σ v1 hf; cases hf
  | succ n ih =>
    intro σ v1 hf
    replace hf := (fX9_oneHour_2_s n σ v1).symm.trans hf
    refine j_iload_n (pc := 2) g 1 dX9_oneHour_2 rfl ?_
    refine j_aload_n (pc := 3) g 0 dX9_oneHour_3 rfl ?_
    refine m9g_1 (pc := 4) g dX9_oneHour_4 ?_
    refine j_iconst (v := 5) (pc := 7) g dX9_oneHour_7 (by decide) ?_
    obtain ⟨h_8, hf⟩ := gx_ck hf
    refine m9l_1 (pc := 8) g h_8 dX9_oneHour_8 ?_
    refine j_icmp_ge (tgt := 32) (pc := 9) g dX9_oneHour_9 (by decide) (fun c_9 => ?_) (fun c_9 => ?_)
    · have hf := gx_it c_9 hf
      refine j_iconst (v := 0) (pc := 32) g dX9_oneHour_32 (by decide) ?_
      refine j_istore_n (L' := [(1, .int (0 : Int32)), (0, .ref (ad 0))]) (pc := 33) g dX9_oneHour_33 rfl (Nat.le_of_ble_eq_true rfl) rfl ?_
      refine j_sub (pc := 34) g [1, 0] rfl ?_
      exact tX9_oneHour_34 g hE 2000 σ (0 : Int32) hf
    · have hf := gx_if c_9 hf
      refine j_aload_n (pc := 12) g 0 dX9_oneHour_12 rfl ?_
      refine m9g_1 (pc := 13) g dX9_oneHour_13 ?_
      refine j_bipush (v := 67) (pc := 16) g dX9_oneHour_16 (by decide) ?_
      refine j_iconst (v := 4) (pc := 18) g dX9_oneHour_18 (by decide) ?_
      refine j_iload_n (pc := 19) g 1 dX9_oneHour_19 rfl ?_
      refine j_imul (pc := 20) g dX9_oneHour_20 ?_
      refine j_iadd (pc := 21) g dX9_oneHour_21 ?_
      refine j_iconst (v := 3) (pc := 22) g dX9_oneHour_22 (by decide) ?_
      refine j_iadd (pc := 23) g dX9_oneHour_23 ?_
      refine j_iconst (v := 0) (pc := 24) g dX9_oneHour_24 (by decide) ?_
      obtain ⟨h_25, hf⟩ := gx_ck hf
      refine m9s_1 (pc := 25) g h_25 dX9_oneHour_25 ?_
      refine j_iinc (v := v1 + 1) (L' := [(1, .int (v1 + 1)), (0, .ref (ad 0))]) (pc := 26) g 1 dX9_oneHour_26 rfl rfl (Nat.le_of_ble_eq_true rfl) rfl ?_
      refine j_goto (tgt := 2) (pc := 29) g dX9_oneHour_29 (by decide) ?_
      refine j_sub (pc := 2) g [1, 0] rfl ?_
      exact ih (os_sa σ 1 (((67 : Int32) + ((4 : Int32) * v1)) + (3 : Int32)).toNatClampNeg (0 : Int32)) (v1 + 1) hf
set_option maxRecDepth 100000 in
set_option maxHeartbeats 4000000 in
theorem cX9_oneHour_ {D : va_G} {t : Nat → ClassId} {E : gx_E} {l : Launch} {ad : Nat → Nat} {rs : va_W} {σ : OS} {q : OS} (hf : fX9_oneHour σ = some q) : gx_C D t E l yX9_oneHour cX9_oneHour 3 none 4 94 [.ref (ad 0)] (mC ad t σ ++ rs) (mC ad t q ++ rs) none := by
  refine gx_intro_v (by decide) (Nat.le_of_ble_eq_true rfl) (fun J g hE0 => ?_)
  have hE : ∀ (σ : OS) (pc : Nat) (L : List (Nat × Value)), some σ = some q → decode cX9_oneHour pc = .ok (.return_, 1) → J 0 0 (mC ad t σ ++ rs) pc L [] := fun σ pc L h h1 => by cases h; exact hE0 pc L h1
  unfold fX9_oneHour at hf
  show J 0 0 (mC ad t σ ++ rs) 0 [(0, .ref (ad 0))] []
  refine j_iconst (v := 0) (pc := 0) g dX9_oneHour_0 (by decide) ?_
  refine j_istore_n (L' := [(1, .int (0 : Int32)), (0, .ref (ad 0))]) (pc := 1) g dX9_oneHour_1 rfl (Nat.le_of_ble_eq_true rfl) rfl ?_
  refine j_sub (pc := 2) g [1, 0] rfl ?_
  exact tX9_oneHour_2 g hE 2000 σ (0 : Int32) hf
theorem m9c_X9_oneHour {D : va_G} {t : Nat → ClassId} {E : gx_E} {l : Launch} {R : Room} {cc : ByteArray} {nL : Nat} {J : gx_J} {ad : Nat → Nat} {rs : va_W} {k n pc : Nat} {L : List (Nat × Value)} {rest : List Value} (g : gx_G D t E l R cc RX9 nL J) {σ : OS} {q : OS} (hR : 4 + 1 ≤ R.frames ∧ 8 + (3 + 11) + 94 ≤ R.locals) (hkn : k ≤ R.cells ∧ n ≤ R.slots) (hcat : (rest.map fun v => v.category).sum ≤ 8) (hf : fX9_oneHour σ = some q) (hd : decode cc pc = .ok (.invokevirtual 99, 3)) (kk : J k n (mC ad t q ++ rs) (pc + 3) L (rest)) : J k n (mC ad t σ ++ rs) pc L (.ref (ad 0) :: rest) := j_callVv (na := 0) (As := []) (q0 := 0) (ci := 10) g (cX9_oneHour_  hf) q_i_X9_oneHour q_s_X9_oneHour rfl rfl rfl q_c_X9_oneHour q_l_X9_99 q_n_X9 (by decide +kernel) rfl hR hkn hcat (.refl _) (.refl _) hd kk rfl
set_option maxRecDepth 100000 in
set_option maxHeartbeats 4000000 in
theorem tX9_passes_21 {D : va_G} {t : Nat → ClassId} {E : gx_E} {l : Launch} {J : gx_J} {ad : Nat → Nat} {rs : va_W} {q : (Int32 × OS)} (g : gx_G D t E l ({ frames := 5, cells := 0, slots := 0, locals := 116 }) cX9_passes RX9 4 J) (hE : ∀ (v : Int32) (σ : OS) (pc : Nat) (L : List (Nat × Value)), some (v, σ) = some q → decode cX9_passes pc = .ok (.ireturn, 1) → narrow .int (.int v) = .int v → J 0 0 (mC ad t σ ++ rs) pc L [.int v])  : ∀ (n : Nat) (σ : OS) (v1 : Int32) (v2 : Int32) (v3 : Int32), fX9_passes_21 n σ v1 v2 v3 = some q → J 0 0 (mC ad t σ ++ rs) 21 [(0, .ref (ad 0)), (1, .int v1), (2, .int v2), (3, .int v3)] [] := by
  intro n
  induction n with
  | zero => intro σ v1 v2 v3 hf; cases hf
  | succ n ih =>
    intro σ v1 v2 v3 hf
    replace hf := (fX9_passes_21_s n σ v1 v2 v3).symm.trans hf
    refine j_iload_n (pc := 21) g 3 dX9_passes_21 rfl ?_
    refine j_iload_n (pc := 22) g 1 dX9_passes_22 rfl ?_
    refine j_icmp_ge (tgt := 36) (pc := 23) g dX9_passes_23 (by decide) (fun c_23 => ?_) (fun c_23 => ?_)
    · have hf := gx_it c_23 hf
      refine j_aload_n (pc := 36) g 0 dX9_passes_36 rfl ?_
      refine j_aload_n (pc := 37) g 0 dX9_passes_37 rfl ?_
      refine m9g_1 (pc := 38) g dX9_passes_38 ?_
      refine j_iconst (v := 2) (pc := 41) g dX9_passes_41 (by decide) ?_
      obtain ⟨h_42, hf⟩ := gx_ck hf
      refine m9l_1 (pc := 42) g h_42 dX9_passes_42 ?_
      refine j_iload_n (pc := 43) g 2 dX9_passes_43 rfl ?_
      refine j_isub (pc := 44) g dX9_passes_44 ?_
      obtain ⟨r45, h_45, hf⟩ := gx_bs hf
      refine m9c_X9_done (pc := 45) g ⟨Nat.le_of_ble_eq_true rfl, Nat.le_of_ble_eq_true rfl⟩ ⟨Nat.zero_le _, Nat.zero_le _⟩ (Nat.le_of_ble_eq_true rfl) h_45 dX9_passes_45 ?_
      exact hE _ _ _ _ hf dX9_passes_48 rfl
    · have hf := gx_if c_23 hf
      refine j_aload_n (pc := 26) g 0 dX9_passes_26 rfl ?_
      obtain ⟨r27, h_27, hf⟩ := gx_bs hf
      refine m9c_X9_oneHour (pc := 27) g ⟨Nat.le_of_ble_eq_true rfl, Nat.le_of_ble_eq_true rfl⟩ ⟨Nat.zero_le _, Nat.zero_le _⟩ (Nat.le_of_ble_eq_true rfl) h_27 dX9_passes_27 ?_
      refine j_iinc (v := v3 + 1) (L' := [(3, .int (v3 + 1)), (0, .ref (ad 0)), (1, .int v1), (2, .int v2)]) (pc := 30) g 3 dX9_passes_30 rfl rfl (Nat.le_of_ble_eq_true rfl) rfl ?_
      refine j_goto (tgt := 21) (pc := 33) g dX9_passes_33 (by decide) ?_
      refine j_sub (pc := 21) g [1, 2, 3, 0] rfl ?_
      exact ih r27 v1 v2 (v3 + 1) hf
set_option maxRecDepth 100000 in
set_option maxHeartbeats 4000000 in
theorem cX9_passes_ {D : va_G} {t : Nat → ClassId} {E : gx_E} {l : Launch} {ad : Nat → Nat} {rs : va_W} {σ : OS} {p1 : Int32} {q : (Int32 × OS)} (hf : fX9_passes σ p1 = some q) : gx_C D t E l yX9_passes cX9_passes 4 (some .int) 5 116 [.ref (ad 0), .int p1] (mC ad t σ ++ rs) (mC ad t q.2 ++ rs) (some (.int q.1)) := by
  refine gx_intro_i (by decide) (Nat.le_of_ble_eq_true rfl) (fun J g hE0 => ?_)
  have hE : ∀ (v : Int32) (σ : OS) (pc : Nat) (L : List (Nat × Value)), some (v, σ) = some q → decode cX9_passes pc = .ok (.ireturn, 1) → narrow .int (.int v) = .int v → J 0 0 (mC ad t σ ++ rs) pc L [.int v] := fun v σ pc L h h1 h2 => by cases h; exact hE0 pc L h1 h2
  unfold fX9_passes at hf
  show J 0 0 (mC ad t σ ++ rs) 0 [(0, .ref (ad 0)), (1, .int p1)] []
  refine j_iload_n (pc := 0) g 1 dX9_passes_0 rfl ?_
  refine j_iconst (v := 1) (pc := 1) g dX9_passes_1 (by decide) ?_
  refine j_bipush (v := 24) (pc := 2) g dX9_passes_2 (by decide) ?_
  obtain ⟨r4, h_4, hf⟩ := gx_bs hf
  refine m9c_X9_in (pc := 4) g ⟨Nat.le_of_ble_eq_true rfl, Nat.le_of_ble_eq_true rfl⟩ ⟨Nat.zero_le _, Nat.zero_le _⟩ (Nat.le_of_ble_eq_true rfl) h_4 dX9_passes_4 ?_
  refine j_if_ne (tgt := 12) (pc := 7) g dX9_passes_7 (by decide) (fun c_7 => ?_) (fun c_7 => ?_)
  · have hf := gx_if c_7 hf
    refine j_aload_n (pc := 12) g 0 dX9_passes_12 rfl ?_
    refine m9g_1 (pc := 13) g dX9_passes_13 ?_
    refine j_iconst (v := 2) (pc := 16) g dX9_passes_16 (by decide) ?_
    obtain ⟨h_17, hf⟩ := gx_ck hf
    refine m9l_1 (pc := 17) g h_17 dX9_passes_17 ?_
    refine j_istore_n (L' := [(2, .int (os_a σ 1 (2 : Int32).toNatClampNeg)), (0, .ref (ad 0)), (1, .int p1)]) (pc := 18) g dX9_passes_18 rfl (Nat.le_of_ble_eq_true rfl) rfl ?_
    refine j_iconst (v := 0) (pc := 19) g dX9_passes_19 (by decide) ?_
    refine j_istore_n (L' := [(3, .int (0 : Int32)), (2, .int (os_a σ 1 (2 : Int32).toNatClampNeg)), (0, .ref (ad 0)), (1, .int p1)]) (pc := 20) g dX9_passes_20 rfl (Nat.le_of_ble_eq_true rfl) rfl ?_
    refine j_sub (pc := 21) g [2, 3, 1, 0] rfl ?_
    exact tX9_passes_21 g hE 2000 σ p1 (os_a σ 1 (2 : Int32).toNatClampNeg) (0 : Int32) hf
  · have hf := gx_it c_7 hf
    refine j_iconst (v := 1) (pc := 10) g dX9_passes_10 (by decide) ?_
    exact hE _ _ _ _ hf dX9_passes_11 rfl

set_option maxRecDepth 100000 in
set_option maxHeartbeats 4000000 in
theorem cX9_isSign_ {D : va_G} {t : Nat → ClassId} {E : gx_E} {l : Launch} {ad : Nat → Nat} {rs : va_W} {p0 : Int32} {p1 : Int32} {q : Int32} (hf : fX9_isSign p0 p1 = some q) : gx_C D t E l yX9_isSign cX9_isSign 2 (some .boolean) 1 22 [.int p0, .int p1] (rs) (rs) (some (.int q)) := by
  refine gx_intro_i (by decide) (Nat.le_of_ble_eq_true rfl) (fun J g hE0 => ?_)
  have hE : ∀ (v : Int32) (pc : Nat) (L : List (Nat × Value)), some v = some q → decode cX9_isSign pc = .ok (.ireturn, 1) → narrow .boolean (.int v) = .int v → J 0 0 (rs) pc L [.int v] := fun v pc L h h1 h2 => by cases h; exact hE0 pc L h1 h2
  unfold fX9_isSign at hf
  show J 0 0 (rs) 0 [(0, .int p0), (1, .int p1)] []
  refine j_iload_n (pc := 0) g 0 dX9_isSign_0 rfl ?_
  refine j_bipush (v := 97) (pc := 1) g dX9_isSign_1 (by decide) ?_
  refine j_bipush (v := 122) (pc := 3) g dX9_isSign_3 (by decide) ?_
  obtain ⟨r5, h_5, hf⟩ := gx_bs hf
  refine m9c_X9_in (pc := 5) g ⟨Nat.le_of_ble_eq_true rfl, Nat.le_of_ble_eq_true rfl⟩ ⟨Nat.zero_le _, Nat.zero_le _⟩ (Nat.le_of_ble_eq_true rfl) h_5 dX9_isSign_5 ?_
  refine j_if_eq (tgt := 26) (pc := 8) g dX9_isSign_8 (by decide) (fun c_8 => ?_) (fun c_8 => ?_)
  · have hf := gx_it c_8 hf
    refine j_iconst (v := 0) (pc := 26) g dX9_isSign_26 (by decide) ?_
    exact hE _ _ _ hf dX9_isSign_27 rfl
  · have hf := gx_if c_8 hf
    refine j_iload_n (pc := 11) g 1 dX9_isSign_11 rfl ?_
    refine j_bipush (v := 97) (pc := 12) g dX9_isSign_12 (by decide) ?_
    refine j_bipush (v := 122) (pc := 14) g dX9_isSign_14 (by decide) ?_
    obtain ⟨r16, h_16, hf⟩ := gx_bs hf
    refine m9c_X9_in (pc := 16) g ⟨Nat.le_of_ble_eq_true rfl, Nat.le_of_ble_eq_true rfl⟩ ⟨Nat.zero_le _, Nat.zero_le _⟩ (Nat.le_of_ble_eq_true rfl) h_16 dX9_isSign_16 ?_
    refine j_if_eq (tgt := 26) (pc := 19) g dX9_isSign_19 (by decide) (fun c_19 => ?_) (fun c_19 => ?_)
    · have hf := gx_it c_19 hf
      refine j_iconst (v := 0) (pc := 26) g dX9_isSign_26 (by decide) ?_
      exact hE _ _ _ hf dX9_isSign_27 rfl
    · have hf := gx_if c_19 hf
      refine j_iconst (v := 1) (pc := 22) g dX9_isSign_22 (by decide) ?_
      refine j_goto (tgt := 27) (pc := 23) g dX9_isSign_23 (by decide) ?_
      exact hE _ _ _ hf dX9_isSign_27 rfl

set_option maxRecDepth 100000 in
set_option maxHeartbeats 4000000 in
theorem tX9_placeOf_2 {D : va_G} {t : Nat → ClassId} {E : gx_E} {l : Launch} {J : gx_J} {ad : Nat → Nat} {rs : va_W} {σ : OS} {q : Int32} (g : gx_G D t E l ({ frames := 0, cells := 0, slots := 0, locals := 0 }) cX9_placeOf RX9 4 J) (hE : ∀ (v : Int32) (pc : Nat) (L : List (Nat × Value)), some v = some q → decode cX9_placeOf pc = .ok (.ireturn, 1) → narrow .int (.int v) = .int v → J 0 0 (mC ad t σ ++ rs) pc L [.int v])  : ∀ (n : Nat) (v1 : Int32) (v2 : Int32) (v3 : Int32), fX9_placeOf_2 σ n v1 v2 v3 = some q → J 0 0 (mC ad t σ ++ rs) 2 [(0, .ref (ad 0)), (1, .int v1), (2, .int v2), (3, .int v3)] [] := by
  intro n
  induction n with
  | zero => intro v1 v2 v3 hf; cases hf
  | succ n ih =>
    intro v1 v2 v3 hf
    replace hf := (fX9_placeOf_2_s σ n v1 v2 v3).symm.trans hf
    refine j_iload_n (pc := 2) g 3 dX9_placeOf_2 rfl ?_
    refine j_aload_n (pc := 3) g 0 dX9_placeOf_3 rfl ?_
    refine m9g_1 (pc := 4) g dX9_placeOf_4 ?_
    refine j_bipush (v := 6) (pc := 7) g dX9_placeOf_7 (by decide) ?_
    obtain ⟨h_9, hf⟩ := gx_ck hf
    refine m9l_1 (pc := 9) g h_9 dX9_placeOf_9 ?_
    refine j_icmp_ge (tgt := 41) (pc := 10) g dX9_placeOf_10 (by decide) (fun c_10 => ?_) (fun c_10 => ?_)
    · have hf := gx_it c_10 hf
      refine j_iconst (v := -1) (pc := 41) g dX9_placeOf_41 (by decide) ?_
      exact hE _ _ _ hf dX9_placeOf_42 rfl
    · have hf := gx_if c_10 hf
      refine j_aload_n (pc := 13) g 0 dX9_placeOf_13 rfl ?_
      refine m9g_1 (pc := 14) g dX9_placeOf_14 ?_
      refine j_bipush (v := 91) (pc := 17) g dX9_placeOf_17 (by decide) ?_
      refine j_iconst (v := 2) (pc := 19) g dX9_placeOf_19 (by decide) ?_
      refine j_iload_n (pc := 20) g 3 dX9_placeOf_20 rfl ?_
      refine j_imul (pc := 21) g dX9_placeOf_21 ?_
      refine j_iadd (pc := 22) g dX9_placeOf_22 ?_
      obtain ⟨h_23, hf⟩ := gx_ck hf
      refine m9l_1 (pc := 23) g h_23 dX9_placeOf_23 ?_
      refine j_bipush (v := 26) (pc := 24) g dX9_placeOf_24 (by decide) ?_
      refine j_iload_n (pc := 26) g 1 dX9_placeOf_26 rfl ?_
      refine j_imul (pc := 27) g dX9_placeOf_27 ?_
      refine j_iload_n (pc := 28) g 2 dX9_placeOf_28 rfl ?_
      refine j_iadd (pc := 29) g dX9_placeOf_29 ?_
      refine j_icmp_ne (tgt := 35) (pc := 30) g dX9_placeOf_30 (by decide) (fun c_30 => ?_) (fun c_30 => ?_)
      · have hf := gx_if c_30 hf
        refine j_iinc (v := v3 + 1) (L' := [(3, .int (v3 + 1)), (0, .ref (ad 0)), (1, .int v1), (2, .int v2)]) (pc := 35) g 3 dX9_placeOf_35 rfl rfl (Nat.le_of_ble_eq_true rfl) rfl ?_
        refine j_goto (tgt := 2) (pc := 38) g dX9_placeOf_38 (by decide) ?_
        refine j_sub (pc := 2) g [1, 2, 3, 0] rfl ?_
        exact ih v1 v2 (v3 + 1) hf
      · have hf := gx_it c_30 hf
        refine j_iload_n (pc := 33) g 3 dX9_placeOf_33 rfl ?_
        exact hE _ _ _ hf dX9_placeOf_34 rfl
set_option maxRecDepth 100000 in
set_option maxHeartbeats 4000000 in
theorem cX9_placeOf_ {D : va_G} {t : Nat → ClassId} {E : gx_E} {l : Launch} {ad : Nat → Nat} {rs : va_W} {σ : OS} {p1 : Int32} {p2 : Int32} {q : Int32} (hf : fX9_placeOf σ p1 p2 = some q) : gx_C D t E l yX9_placeOf cX9_placeOf 4 (some .int) 0 0 [.ref (ad 0), .int p1, .int p2] (mC ad t σ ++ rs) (mC ad t σ ++ rs) (some (.int q)) := by
  refine gx_intro_i (by decide) (Nat.le_of_ble_eq_true rfl) (fun J g hE0 => ?_)
  have hE : ∀ (v : Int32) (pc : Nat) (L : List (Nat × Value)), some v = some q → decode cX9_placeOf pc = .ok (.ireturn, 1) → narrow .int (.int v) = .int v → J 0 0 (mC ad t σ ++ rs) pc L [.int v] := fun v pc L h h1 h2 => by cases h; exact hE0 pc L h1 h2
  unfold fX9_placeOf at hf
  show J 0 0 (mC ad t σ ++ rs) 0 [(0, .ref (ad 0)), (1, .int p1), (2, .int p2)] []
  refine j_iconst (v := 0) (pc := 0) g dX9_placeOf_0 (by decide) ?_
  refine j_istore_n (L' := [(3, .int (0 : Int32)), (0, .ref (ad 0)), (1, .int p1), (2, .int p2)]) (pc := 1) g dX9_placeOf_1 rfl (Nat.le_of_ble_eq_true rfl) rfl ?_
  refine j_sub (pc := 2) g [1, 2, 3, 0] rfl ?_
  exact tX9_placeOf_2 g hE 2000 p1 p2 (0 : Int32) hf
theorem m9c_X9_isSign {D : va_G} {t : Nat → ClassId} {E : gx_E} {l : Launch} {R : Room} {cc : ByteArray} {nL : Nat} {J : gx_J} {k n pc : Nat} {L : List (Nat × Value)} {rest : List Value} (g : gx_G D t E l R cc RX9 nL J) {w : va_W} {x0 : Int32} {x1 : Int32} {q : Int32} (hR : 1 + 1 ≤ R.frames ∧ 8 + (2 + 11) + 22 ≤ R.locals) (hkn : k ≤ R.cells ∧ n ≤ R.slots) (hcat : (rest.map fun v => v.category).sum ≤ 8) (hf : fX9_isSign x0 x1 = some q) (hd : decode cc pc = .ok (.invokestatic 102, 3)) (kk : J k n w (pc + 3) L (.int q :: rest)) : J k n w pc L (.int x1 :: .int x0 :: rest) := j_callSi (na := 2) (As := [.int x0, .int x1]) g (cX9_isSign_ (rs := w) (ad := fun i => i) hf) q_t_X9_isSign q_c_X9_isSign q_l_X9_102 q_n_X9 (by decide +kernel) rfl hR hkn hcat (.refl _) (.refl _) hd kk rfl
theorem m9c_X9_placeOf {D : va_G} {t : Nat → ClassId} {E : gx_E} {l : Launch} {R : Room} {cc : ByteArray} {nL : Nat} {J : gx_J} {ad : Nat → Nat} {rs : va_W} {k n pc : Nat} {L : List (Nat × Value)} {rest : List Value} (g : gx_G D t E l R cc RX9 nL J) {σ : OS} {x0 : Int32} {x1 : Int32} {q : Int32} (hR : 0 + 1 ≤ R.frames ∧ 8 + (4 + 11) + 0 ≤ R.locals) (hkn : k ≤ R.cells ∧ n ≤ R.slots) (hcat : (rest.map fun v => v.category).sum ≤ 8) (hf : fX9_placeOf σ x0 x1 = some q) (hd : decode cc pc = .ok (.invokevirtual 105, 3)) (kk : J k n (mC ad t σ ++ rs) (pc + 3) L (.int q :: rest)) : J k n (mC ad t σ ++ rs) pc L (.int x1 :: .int x0 :: .ref (ad 0) :: rest) := j_callVi (na := 2) (As := [.int x0, .int x1]) (q0 := 0) (ci := 10) g (cX9_placeOf_  hf) q_i_X9_placeOf q_s_X9_placeOf rfl rfl rfl q_c_X9_placeOf q_l_X9_105 q_n_X9 (by decide +kernel) rfl hR hkn hcat (.refl _) (.refl _) hd kk rfl
set_option maxRecDepth 100000 in
set_option maxHeartbeats 4000000 in
theorem tX9_signs_74 {D : va_G} {t : Nat → ClassId} {E : gx_E} {l : Launch} {J : gx_J} {ad : Nat → Nat} {rs : va_W} {q : (Int32 × OS)} (g : gx_G D t E l ({ frames := 2, cells := 0, slots := 0, locals := 43 }) cX9_signs RX9 5 J) (hE : ∀ (v : Int32) (σ : OS) (pc : Nat) (L : List (Nat × Value)), some (v, σ) = some q → decode cX9_signs pc = .ok (.ireturn, 1) → narrow .int (.int v) = .int v → J 0 0 (mC ad t σ ++ rs) pc L [.int v])  : ∀ (σ : OS) (v1 : Int32) (v2 : Int32) (v3 : Int32) (v4 : Int32), fX9_signs_74 σ v1 v2 v3 v4 = some q → J 0 0 (mC ad t σ ++ rs) 74 [(0, .ref (ad 0)), (1, .int v1), (2, .int v2), (3, .int v3), (4, .int v4)] [] := by
  intro σ v1 v2 v3 v4 hf
  unfold fX9_signs_74 at hf
  refine j_aload_n (pc := 74) g 0 dX9_signs_74 rfl ?_
  refine m9g_1 (pc := 75) g dX9_signs_75 ?_
  refine j_bipush (v := 91) (pc := 78) g dX9_signs_78 (by decide) ?_
  refine j_iconst (v := 2) (pc := 80) g dX9_signs_80 (by decide) ?_
  refine j_iload (pc := 81) g 4 dX9_signs_81 rfl ?_
  refine j_imul (pc := 83) g dX9_signs_83 ?_
  refine j_iadd (pc := 84) g dX9_signs_84 ?_
  refine j_bipush (v := 26) (pc := 85) g dX9_signs_85 (by decide) ?_
  refine j_iload_n (pc := 87) g 1 dX9_signs_87 rfl ?_
  refine j_imul (pc := 88) g dX9_signs_88 ?_
  refine j_iload_n (pc := 89) g 2 dX9_signs_89 rfl ?_
  refine j_iadd (pc := 90) g dX9_signs_90 ?_
  obtain ⟨h_91, hf⟩ := gx_ck hf
  refine m9s_1 (pc := 91) g h_91 dX9_signs_91 ?_
  refine j_aload_n (pc := 92) g 0 dX9_signs_92 rfl ?_
  refine m9g_1 (pc := 93) g dX9_signs_93 ?_
  refine j_bipush (v := 91) (pc := 96) g dX9_signs_96 (by decide) ?_
  refine j_iconst (v := 2) (pc := 98) g dX9_signs_98 (by decide) ?_
  refine j_iload (pc := 99) g 4 dX9_signs_99 rfl ?_
  refine j_imul (pc := 101) g dX9_signs_101 ?_
  refine j_iadd (pc := 102) g dX9_signs_102 ?_
  refine j_iconst (v := 1) (pc := 103) g dX9_signs_103 (by decide) ?_
  refine j_iadd (pc := 104) g dX9_signs_104 ?_
  refine j_iload_n (pc := 105) g 3 dX9_signs_105 rfl ?_
  obtain ⟨h_106, hf⟩ := gx_ck hf
  refine m9s_1 (pc := 106) g h_106 dX9_signs_106 ?_
  refine j_aload_n (pc := 107) g 0 dX9_signs_107 rfl ?_
  refine j_aload_n (pc := 108) g 0 dX9_signs_108 rfl ?_
  refine m9g_1 (pc := 109) g dX9_signs_109 ?_
  refine j_bipush (v := 6) (pc := 112) g dX9_signs_112 (by decide) ?_
  obtain ⟨h_114, hf⟩ := gx_ck hf
  refine m9l_1 (pc := 114) g h_114 dX9_signs_114 ?_
  obtain ⟨r115, h_115, hf⟩ := gx_bs hf
  refine m9c_X9_done (pc := 115) g ⟨Nat.le_of_ble_eq_true rfl, Nat.le_of_ble_eq_true rfl⟩ ⟨Nat.zero_le _, Nat.zero_le _⟩ (Nat.le_of_ble_eq_true rfl) h_115 dX9_signs_115 ?_
  exact hE _ _ _ _ hf dX9_signs_118 rfl
set_option maxRecDepth 100000 in
set_option maxHeartbeats 4000000 in
theorem tX9_signs_48 {D : va_G} {t : Nat → ClassId} {E : gx_E} {l : Launch} {J : gx_J} {ad : Nat → Nat} {rs : va_W} {q : (Int32 × OS)} (g : gx_G D t E l ({ frames := 2, cells := 0, slots := 0, locals := 43 }) cX9_signs RX9 5 J) (hE : ∀ (v : Int32) (σ : OS) (pc : Nat) (L : List (Nat × Value)), some (v, σ) = some q → decode cX9_signs pc = .ok (.ireturn, 1) → narrow .int (.int v) = .int v → J 0 0 (mC ad t σ ++ rs) pc L [.int v])  : ∀ (σ : OS) (v1 : Int32) (v2 : Int32) (v3 : Int32) (v4 : Int32), fX9_signs_48 σ v1 v2 v3 v4 = some q → J 0 0 (mC ad t σ ++ rs) 48 [(0, .ref (ad 0)), (1, .int v1), (2, .int v2), (3, .int v3), (4, .int v4)] [] := by
  intro σ v1 v2 v3 v4 hf
  unfold fX9_signs_48 at hf
  refine j_iload (pc := 48) g 4 dX9_signs_48 rfl ?_
  refine j_iconst (v := -1) (pc := 50) g dX9_signs_50 (by decide) ?_
  refine j_icmp_ne (tgt := 74) (pc := 51) g dX9_signs_51 (by decide) (fun c_51 => ?_) (fun c_51 => ?_)
  · have hf := gx_if c_51 hf
    refine j_sub (pc := 74) g [0, 1, 2, 3, 4] rfl ?_
    exact tX9_signs_74 g hE σ v1 v2 v3 v4 hf
  · have hf := gx_it c_51 hf
    refine j_aload_n (pc := 54) g 0 dX9_signs_54 rfl ?_
    refine m9g_1 (pc := 55) g dX9_signs_55 ?_
    refine j_bipush (v := 6) (pc := 58) g dX9_signs_58 (by decide) ?_
    obtain ⟨h_60, hf⟩ := gx_ck hf
    refine m9l_1 (pc := 60) g h_60 dX9_signs_60 ?_
    refine j_istore (L' := [(4, .int (os_a σ 1 (6 : Int32).toNatClampNeg)), (0, .ref (ad 0)), (1, .int v1), (2, .int v2), (3, .int v3)]) (pc := 61) g dX9_signs_61 (Nat.le_of_ble_eq_true rfl) rfl ?_
    refine j_aload_n (pc := 63) g 1 dX9_signs_63 rfl ?_
    refine m9g_1 (pc := 64) g dX9_signs_64 ?_
    refine j_bipush (v := 6) (pc := 67) g dX9_signs_67 (by decide) ?_
    refine j_dup2 (pc := 69) g dX9_signs_69 rfl rfl ?_
    obtain ⟨h_70, hf⟩ := gx_ck hf
    refine m9l_1 (pc := 70) g h_70 dX9_signs_70 ?_
    refine j_iconst (v := 1) (pc := 71) g dX9_signs_71 (by decide) ?_
    refine j_iadd (pc := 72) g dX9_signs_72 ?_
    obtain ⟨h_73, hf⟩ := gx_ck hf
    refine m9s_1 (pc := 73) g h_73 dX9_signs_73 ?_
    refine j_sub (pc := 74) g [1, 2, 3, 4, 0] rfl ?_
    exact tX9_signs_74 g hE (os_sa σ 1 (6 : Int32).toNatClampNeg ((os_a σ 1 (6 : Int32).toNatClampNeg) + (1 : Int32))) v1 v2 v3 (os_a σ 1 (6 : Int32).toNatClampNeg) hf
set_option maxRecDepth 100000 in
set_option maxHeartbeats 4000000 in
theorem cX9_signs_ {D : va_G} {t : Nat → ClassId} {E : gx_E} {l : Launch} {ad : Nat → Nat} {rs : va_W} {σ : OS} {p1 : Int32} {p2 : Int32} {p3 : Int32} {q : (Int32 × OS)} (hf : fX9_signs σ p1 p2 p3 = some q) : gx_C D t E l yX9_signs cX9_signs 5 (some .int) 2 43 [.ref (ad 0), .int p1, .int p2, .int p3] (mC ad t σ ++ rs) (mC ad t q.2 ++ rs) (some (.int q.1)) := by
  refine gx_intro_i (by decide) (Nat.le_of_ble_eq_true rfl) (fun J g hE0 => ?_)
  have hE : ∀ (v : Int32) (σ : OS) (pc : Nat) (L : List (Nat × Value)), some (v, σ) = some q → decode cX9_signs pc = .ok (.ireturn, 1) → narrow .int (.int v) = .int v → J 0 0 (mC ad t σ ++ rs) pc L [.int v] := fun v σ pc L h h1 h2 => by cases h; exact hE0 pc L h1 h2
  unfold fX9_signs at hf
  show J 0 0 (mC ad t σ ++ rs) 0 [(0, .ref (ad 0)), (1, .int p1), (2, .int p2), (3, .int p3)] []
  refine j_iload_n (pc := 0) g 1 dX9_signs_0 rfl ?_
  refine j_iload_n (pc := 1) g 2 dX9_signs_1 rfl ?_
  obtain ⟨r2, h_2, hf⟩ := gx_bs hf
  refine m9c_X9_isSign (pc := 2) g ⟨Nat.le_of_ble_eq_true rfl, Nat.le_of_ble_eq_true rfl⟩ ⟨Nat.zero_le _, Nat.zero_le _⟩ (Nat.le_of_ble_eq_true rfl) h_2 dX9_signs_2 ?_
  refine j_if_eq (tgt := 18) (pc := 5) g dX9_signs_5 (by decide) (fun c_5 => ?_) (fun c_5 => ?_)
  · have hf := gx_it c_5 hf
    refine j_iconst (v := 1) (pc := 18) g dX9_signs_18 (by decide) ?_
    exact hE _ _ _ _ hf dX9_signs_19 rfl
  · have hf := gx_if c_5 hf
    refine j_iload_n (pc := 8) g 3 dX9_signs_8 rfl ?_
    refine j_iconst (v := 0) (pc := 9) g dX9_signs_9 (by decide) ?_
    refine j_bipush (v := 99) (pc := 10) g dX9_signs_10 (by decide) ?_
    obtain ⟨r12, h_12, hf⟩ := gx_bs hf
    refine m9c_X9_in (pc := 12) g ⟨Nat.le_of_ble_eq_true rfl, Nat.le_of_ble_eq_true rfl⟩ ⟨Nat.zero_le _, Nat.zero_le _⟩ (Nat.le_of_ble_eq_true rfl) h_12 dX9_signs_12 ?_
    refine j_if_ne (tgt := 20) (pc := 15) g dX9_signs_15 (by decide) (fun c_15 => ?_) (fun c_15 => ?_)
    · have hf := gx_if c_15 hf
      refine j_aload_n (pc := 20) g 0 dX9_signs_20 rfl ?_
      refine j_iload_n (pc := 21) g 1 dX9_signs_21 rfl ?_
      refine j_iload_n (pc := 22) g 2 dX9_signs_22 rfl ?_
      obtain ⟨r23, h_23, hf⟩ := gx_bs hf
      refine m9c_X9_placeOf (pc := 23) g ⟨Nat.le_of_ble_eq_true rfl, Nat.le_of_ble_eq_true rfl⟩ ⟨Nat.zero_le _, Nat.zero_le _⟩ (Nat.le_of_ble_eq_true rfl) h_23 dX9_signs_23 ?_
      refine j_istore (L' := [(4, .int r23), (0, .ref (ad 0)), (1, .int p1), (2, .int p2), (3, .int p3)]) (pc := 26) g dX9_signs_26 (Nat.le_of_ble_eq_true rfl) rfl ?_
      refine j_iload (pc := 28) g 0 dX9_signs_28 rfl ?_
      refine j_iconst (v := -1) (pc := 30) g dX9_signs_30 (by decide) ?_
      refine j_icmp_ne (tgt := 48) (pc := 31) g dX9_signs_31 (by decide) (fun c_31 => ?_) (fun c_31 => ?_)
      · have hf := gx_if c_31 hf
        refine j_sub (pc := 48) g [1, 2, 3, 4, 0] rfl ?_
        exact tX9_signs_48 g hE σ p1 p2 p3 r23 hf
      · have hf := gx_it c_31 hf
        refine j_aload_n (pc := 34) g 1 dX9_signs_34 rfl ?_
        refine m9g_1 (pc := 35) g dX9_signs_35 ?_
        refine j_bipush (v := 6) (pc := 38) g dX9_signs_38 (by decide) ?_
        obtain ⟨h_40, hf⟩ := gx_ck hf
        refine m9l_1 (pc := 40) g h_40 dX9_signs_40 ?_
        refine j_bipush (v := 20) (pc := 41) g dX9_signs_41 (by decide) ?_
        refine j_icmp_ne (tgt := 48) (pc := 43) g dX9_signs_43 (by decide) (fun c_43 => ?_) (fun c_43 => ?_)
        · have hf := gx_if c_43 hf
          refine j_sub (pc := 48) g [1, 2, 3, 4, 0] rfl ?_
          exact tX9_signs_48 g hE σ p1 p2 p3 r23 hf
        · have hf := gx_it c_43 hf
          refine j_iconst (v := 2) (pc := 46) g dX9_signs_46 (by decide) ?_
          exact hE _ _ _ _ hf dX9_signs_47 rfl
    · have hf := gx_it c_15 hf
      refine j_iconst (v := 1) (pc := 18) g dX9_signs_18 (by decide) ?_
      exact hE _ _ _ _ hf dX9_signs_19 rfl

set_option maxRecDepth 100000 in
set_option maxHeartbeats 4000000 in
theorem tX9_unsigns_55 {D : va_G} {t : Nat → ClassId} {E : gx_E} {l : Launch} {J : gx_J} {ad : Nat → Nat} {rs : va_W} {q : (Int32 × OS)} (g : gx_G D t E l ({ frames := 2, cells := 0, slots := 0, locals := 43 }) cX9_unsigns RX9 7 J) (hE : ∀ (v : Int32) (σ : OS) (pc : Nat) (L : List (Nat × Value)), some (v, σ) = some q → decode cX9_unsigns pc = .ok (.ireturn, 1) → narrow .int (.int v) = .int v → J 0 0 (mC ad t σ ++ rs) pc L [.int v])  : ∀ (n : Nat) (σ : OS) (v4 : Int32) (v5 : Int32) (v6 : Int32), fX9_unsigns_55 n σ v4 v5 v6 = some q → J 0 0 (mC ad t σ ++ rs) 55 [(0, .ref (ad 0)), (4, .int v4), (5, .int v5), (6, .int v6)] [] := by
  intro n
  induction n with
  | zero => intro σ v4 v5 v6 hf; cases hf
  | succ n ih =>
    intro σ v4 v5 v6 hf
    replace hf := (fX9_unsigns_55_s n σ v4 v5 v6).symm.trans hf
    refine j_iload (pc := 55) g 3 dX9_unsigns_55 rfl ?_
    refine j_iconst (v := 2) (pc := 57) g dX9_unsigns_57 (by decide) ?_
    refine j_iload (pc := 58) g 2 dX9_unsigns_58 rfl ?_
    refine j_imul (pc := 60) g dX9_unsigns_60 ?_
    refine j_icmp_ge (tgt := 92) (pc := 61) g dX9_unsigns_61 (by decide) (fun c_61 => ?_) (fun c_61 => ?_)
    · have hf := gx_it c_61 hf
      refine j_aload_n (pc := 92) g 0 dX9_unsigns_92 rfl ?_
      refine m9g_1 (pc := 93) g dX9_unsigns_93 ?_
      refine j_bipush (v := 91) (pc := 96) g dX9_unsigns_96 (by decide) ?_
      refine j_iconst (v := 2) (pc := 98) g dX9_unsigns_98 (by decide) ?_
      refine j_iload (pc := 99) g 2 dX9_unsigns_99 rfl ?_
      refine j_imul (pc := 101) g dX9_unsigns_101 ?_
      refine j_iadd (pc := 102) g dX9_unsigns_102 ?_
      refine j_iconst (v := 0) (pc := 103) g dX9_unsigns_103 (by decide) ?_
      obtain ⟨h_104, hf⟩ := gx_ck hf
      refine m9s_1 (pc := 104) g h_104 dX9_unsigns_104 ?_
      refine j_aload_n (pc := 105) g 0 dX9_unsigns_105 rfl ?_
      refine m9g_1 (pc := 106) g dX9_unsigns_106 ?_
      refine j_bipush (v := 91) (pc := 109) g dX9_unsigns_109 (by decide) ?_
      refine j_iconst (v := 2) (pc := 111) g dX9_unsigns_111 (by decide) ?_
      refine j_iload (pc := 112) g 2 dX9_unsigns_112 rfl ?_
      refine j_imul (pc := 114) g dX9_unsigns_114 ?_
      refine j_iadd (pc := 115) g dX9_unsigns_115 ?_
      refine j_iconst (v := 1) (pc := 116) g dX9_unsigns_116 (by decide) ?_
      refine j_iadd (pc := 117) g dX9_unsigns_117 ?_
      refine j_iconst (v := 0) (pc := 118) g dX9_unsigns_118 (by decide) ?_
      obtain ⟨h_119, hf⟩ := gx_ck hf
      refine m9s_1 (pc := 119) g h_119 dX9_unsigns_119 ?_
      refine j_aload_n (pc := 120) g 0 dX9_unsigns_120 rfl ?_
      refine m9g_1 (pc := 121) g dX9_unsigns_121 ?_
      refine j_bipush (v := 6) (pc := 124) g dX9_unsigns_124 (by decide) ?_
      refine j_iload (pc := 126) g 2 dX9_unsigns_126 rfl ?_
      obtain ⟨h_128, hf⟩ := gx_ck hf
      refine m9s_1 (pc := 128) g h_128 dX9_unsigns_128 ?_
      refine j_aload_n (pc := 129) g 0 dX9_unsigns_129 rfl ?_
      refine j_iload (pc := 130) g 1 dX9_unsigns_130 rfl ?_
      obtain ⟨r132, h_132, hf⟩ := gx_bs hf
      refine m9c_X9_done (pc := 132) g ⟨Nat.le_of_ble_eq_true rfl, Nat.le_of_ble_eq_true rfl⟩ ⟨Nat.zero_le _, Nat.zero_le _⟩ (Nat.le_of_ble_eq_true rfl) h_132 dX9_unsigns_132 ?_
      exact hE _ _ _ _ hf dX9_unsigns_135 rfl
    · have hf := gx_if c_61 hf
      refine j_aload_n (pc := 64) g 0 dX9_unsigns_64 rfl ?_
      refine m9g_1 (pc := 65) g dX9_unsigns_65 ?_
      refine j_bipush (v := 91) (pc := 68) g dX9_unsigns_68 (by decide) ?_
      refine j_iload (pc := 70) g 3 dX9_unsigns_70 rfl ?_
      refine j_iadd (pc := 72) g dX9_unsigns_72 ?_
      refine j_aload_n (pc := 73) g 0 dX9_unsigns_73 rfl ?_
      refine m9g_1 (pc := 74) g dX9_unsigns_74 ?_
      refine j_bipush (v := 91) (pc := 77) g dX9_unsigns_77 (by decide) ?_
      refine j_iload (pc := 79) g 3 dX9_unsigns_79 rfl ?_
      refine j_iadd (pc := 81) g dX9_unsigns_81 ?_
      refine j_iconst (v := 2) (pc := 82) g dX9_unsigns_82 (by decide) ?_
      refine j_iadd (pc := 83) g dX9_unsigns_83 ?_
      obtain ⟨h_84, hf⟩ := gx_ck hf
      refine m9l_1 (pc := 84) g h_84 dX9_unsigns_84 ?_
      obtain ⟨h_85, hf⟩ := gx_ck hf
      refine m9s_1 (pc := 85) g h_85 dX9_unsigns_85 ?_
      refine j_iinc (v := v6 + 1) (L' := [(6, .int (v6 + 1)), (0, .ref (ad 0)), (4, .int v4), (5, .int v5)]) (pc := 86) g 3 dX9_unsigns_86 rfl rfl (Nat.le_of_ble_eq_true rfl) rfl ?_
      refine j_goto (tgt := 55) (pc := 89) g dX9_unsigns_89 (by decide) ?_
      refine j_sub (pc := 55) g [1, 2, 3, 0] rfl ?_
      exact ih (os_sa σ 1 ((91 : Int32) + v6).toNatClampNeg (os_a σ 1 (((91 : Int32) + v6) + (2 : Int32)).toNatClampNeg)) v4 v5 (v6 + 1) hf
set_option maxRecDepth 100000 in
set_option maxHeartbeats 4000000 in
theorem cX9_unsigns_ {D : va_G} {t : Nat → ClassId} {E : gx_E} {l : Launch} {ad : Nat → Nat} {rs : va_W} {σ : OS} {p1 : Int32} {p2 : Int32} {q : (Int32 × OS)} (hf : fX9_unsigns σ p1 p2 = some q) : gx_C D t E l yX9_unsigns cX9_unsigns 7 (some .int) 2 43 [.ref (ad 0), .int p1, .int p2] (mC ad t σ ++ rs) (mC ad t q.2 ++ rs) (some (.int q.1)) := by
  refine gx_intro_i (by decide) (Nat.le_of_ble_eq_true rfl) (fun J g hE0 => ?_)
  have hE : ∀ (v : Int32) (σ : OS) (pc : Nat) (L : List (Nat × Value)), some (v, σ) = some q → decode cX9_unsigns pc = .ok (.ireturn, 1) → narrow .int (.int v) = .int v → J 0 0 (mC ad t σ ++ rs) pc L [.int v] := fun v σ pc L h h1 h2 => by cases h; exact hE0 pc L h1 h2
  unfold fX9_unsigns at hf
  show J 0 0 (mC ad t σ ++ rs) 0 [(0, .ref (ad 0)), (1, .int p1), (2, .int p2)] []
  refine j_iload_n (pc := 0) g 1 dX9_unsigns_0 rfl ?_
  refine j_iload_n (pc := 1) g 2 dX9_unsigns_1 rfl ?_
  obtain ⟨r2, h_2, hf⟩ := gx_bs hf
  refine m9c_X9_isSign (pc := 2) g ⟨Nat.le_of_ble_eq_true rfl, Nat.le_of_ble_eq_true rfl⟩ ⟨Nat.zero_le _, Nat.zero_le _⟩ (Nat.le_of_ble_eq_true rfl) h_2 dX9_unsigns_2 ?_
  refine j_if_ne (tgt := 10) (pc := 5) g dX9_unsigns_5 (by decide) (fun c_5 => ?_) (fun c_5 => ?_)
  · have hf := gx_if c_5 hf
    refine j_aload_n (pc := 10) g 0 dX9_unsigns_10 rfl ?_
    refine j_iload_n (pc := 11) g 1 dX9_unsigns_11 rfl ?_
    refine j_iload_n (pc := 12) g 2 dX9_unsigns_12 rfl ?_
    obtain ⟨r13, h_13, hf⟩ := gx_bs hf
    refine m9c_X9_placeOf (pc := 13) g ⟨Nat.le_of_ble_eq_true rfl, Nat.le_of_ble_eq_true rfl⟩ ⟨Nat.zero_le _, Nat.zero_le _⟩ (Nat.le_of_ble_eq_true rfl) h_13 dX9_unsigns_13 ?_
    refine j_istore_n (L' := [(3, .int r13), (0, .ref (ad 0)), (1, .int p1), (2, .int p2)]) (pc := 16) g dX9_unsigns_16 rfl (Nat.le_of_ble_eq_true rfl) rfl ?_
    refine j_iload_n (pc := 17) g 0 dX9_unsigns_17 rfl ?_
    refine j_iconst (v := -1) (pc := 18) g dX9_unsigns_18 (by decide) ?_
    refine j_icmp_ne (tgt := 24) (pc := 19) g dX9_unsigns_19 (by decide) (fun c_19 => ?_) (fun c_19 => ?_)
    · have hf := gx_if c_19 hf
      refine j_aload_n (pc := 24) g 1 dX9_unsigns_24 rfl ?_
      refine m9g_1 (pc := 25) g dX9_unsigns_25 ?_
      refine j_bipush (v := 91) (pc := 28) g dX9_unsigns_28 (by decide) ?_
      refine j_iconst (v := 2) (pc := 30) g dX9_unsigns_30 (by decide) ?_
      refine j_iload_n (pc := 31) g 0 dX9_unsigns_31 rfl ?_
      refine j_imul (pc := 32) g dX9_unsigns_32 ?_
      refine j_iadd (pc := 33) g dX9_unsigns_33 ?_
      refine j_iconst (v := 1) (pc := 34) g dX9_unsigns_34 (by decide) ?_
      refine j_iadd (pc := 35) g dX9_unsigns_35 ?_
      obtain ⟨h_36, hf⟩ := gx_ck hf
      refine m9l_1 (pc := 36) g h_36 dX9_unsigns_36 ?_
      refine j_istore (L' := [(4, .int (os_a σ 1 (((91 : Int32) + ((2 : Int32) * r13)) + (1 : Int32)).toNatClampNeg)), (3, .int r13), (0, .ref (ad 0)), (1, .int p1), (2, .int p2)]) (pc := 37) g dX9_unsigns_37 (Nat.le_of_ble_eq_true rfl) rfl ?_
      refine j_aload_n (pc := 39) g 2 dX9_unsigns_39 rfl ?_
      refine m9g_1 (pc := 40) g dX9_unsigns_40 ?_
      refine j_bipush (v := 6) (pc := 43) g dX9_unsigns_43 (by decide) ?_
      obtain ⟨h_45, hf⟩ := gx_ck hf
      refine m9l_1 (pc := 45) g h_45 dX9_unsigns_45 ?_
      refine j_iconst (v := 1) (pc := 46) g dX9_unsigns_46 (by decide) ?_
      refine j_isub (pc := 47) g dX9_unsigns_47 ?_
      refine j_istore (L' := [(5, .int ((os_a σ 1 (6 : Int32).toNatClampNeg) - (1 : Int32))), (4, .int (os_a σ 1 (((91 : Int32) + ((2 : Int32) * r13)) + (1 : Int32)).toNatClampNeg)), (3, .int r13), (0, .ref (ad 0)), (1, .int p1), (2, .int p2)]) (pc := 48) g dX9_unsigns_48 (Nat.le_of_ble_eq_true rfl) rfl ?_
      refine j_iconst (v := 2) (pc := 50) g dX9_unsigns_50 (by decide) ?_
      refine j_iload_n (pc := 51) g 2 dX9_unsigns_51 rfl ?_
      refine j_imul (pc := 52) g dX9_unsigns_52 ?_
      refine j_istore (L' := [(6, .int ((2 : Int32) * r13)), (5, .int ((os_a σ 1 (6 : Int32).toNatClampNeg) - (1 : Int32))), (4, .int (os_a σ 1 (((91 : Int32) + ((2 : Int32) * r13)) + (1 : Int32)).toNatClampNeg)), (3, .int r13), (0, .ref (ad 0)), (1, .int p1), (2, .int p2)]) (pc := 53) g dX9_unsigns_53 (Nat.le_of_ble_eq_true rfl) rfl ?_
      refine j_sub (pc := 55) g [4, 2, 1, 0] rfl ?_
      exact tX9_unsigns_55 g hE 2000 σ (os_a σ 1 (((91 : Int32) + ((2 : Int32) * r13)) + (1 : Int32)).toNatClampNeg) ((os_a σ 1 (6 : Int32).toNatClampNeg) - (1 : Int32)) ((2 : Int32) * r13) hf
    · have hf := gx_it c_19 hf
      refine j_iconst (v := 2) (pc := 22) g dX9_unsigns_22 (by decide) ?_
      exact hE _ _ _ _ hf dX9_unsigns_23 rfl
  · have hf := gx_it c_5 hf
    refine j_iconst (v := 1) (pc := 8) g dX9_unsigns_8 (by decide) ?_
    exact hE _ _ _ _ hf dX9_unsigns_9 rfl
theorem m9c_X9_remembers {D : va_G} {t : Nat → ClassId} {E : gx_E} {l : Launch} {R : Room} {cc : ByteArray} {nL : Nat} {J : gx_J} {ad : Nat → Nat} {rs : va_W} {k n pc : Nat} {L : List (Nat × Value)} {rest : List Value} (g : gx_G D t E l R cc RX9 nL J) {σ : OS} {q : OS} (hR : 0 + 1 ≤ R.frames ∧ 8 + (2 + 11) + 0 ≤ R.locals) (hkn : k ≤ R.cells ∧ n ≤ R.slots) (hcat : (rest.map fun v => v.category).sum ≤ 8) (hf : fX9_remembers σ = some q) (hd : decode cc pc = .ok (.invokevirtual 108, 3)) (kk : J k n (mC ad t q ++ rs) (pc + 3) L (rest)) : J k n (mC ad t σ ++ rs) pc L (.ref (ad 0) :: rest) := j_callVv (na := 0) (As := []) (q0 := 0) (ci := 10) g (cX9_remembers_  hf) q_i_X9_remembers q_s_X9_remembers rfl rfl rfl q_c_X9_remembers q_l_X9_108 q_n_X9 (by decide +kernel) rfl hR hkn hcat (.refl _) (.refl _) hd kk rfl
theorem m9c_X9_adds {D : va_G} {t : Nat → ClassId} {E : gx_E} {l : Launch} {R : Room} {cc : ByteArray} {nL : Nat} {J : gx_J} {ad : Nat → Nat} {rs : va_W} {k n pc : Nat} {L : List (Nat × Value)} {rest : List Value} (g : gx_G D t E l R cc RX9 nL J) {σ : OS} {x0 : Int32} {x1 : Int32} {x2 : Int32} {q : (Int32 × OS)} (hR : 2 + 1 ≤ R.frames ∧ 8 + (5 + 11) + 43 ≤ R.locals) (hkn : k ≤ R.cells ∧ n ≤ R.slots) (hcat : (rest.map fun v => v.category).sum ≤ 8) (hf : fX9_adds σ x0 x1 x2 = some q) (hd : decode cc pc = .ok (.invokevirtual 111, 3)) (kk : J k n (mC ad t q.2 ++ rs) (pc + 3) L (.int q.1 :: rest)) : J k n (mC ad t σ ++ rs) pc L (.int x2 :: .int x1 :: .int x0 :: .ref (ad 0) :: rest) := j_callVi (na := 3) (As := [.int x0, .int x1, .int x2]) (q0 := 0) (ci := 10) g (cX9_adds_  hf) q_i_X9_adds q_s_X9_adds rfl rfl rfl q_c_X9_adds q_l_X9_111 q_n_X9 (by decide +kernel) rfl hR hkn hcat (.refl _) (.refl _) hd kk rfl
theorem m9c_X9_ends {D : va_G} {t : Nat → ClassId} {E : gx_E} {l : Launch} {R : Room} {cc : ByteArray} {nL : Nat} {J : gx_J} {ad : Nat → Nat} {rs : va_W} {k n pc : Nat} {L : List (Nat × Value)} {rest : List Value} (g : gx_G D t E l R cc RX9 nL J) {σ : OS} {x0 : Int32} {q : (Int32 × OS)} (hR : 1 + 1 ≤ R.frames ∧ 8 + (2 + 11) + 22 ≤ R.locals) (hkn : k ≤ R.cells ∧ n ≤ R.slots) (hcat : (rest.map fun v => v.category).sum ≤ 8) (hf : fX9_ends σ x0 = some q) (hd : decode cc pc = .ok (.invokevirtual 115, 3)) (kk : J k n (mC ad t q.2 ++ rs) (pc + 3) L (.int q.1 :: rest)) : J k n (mC ad t σ ++ rs) pc L (.int x0 :: .ref (ad 0) :: rest) := j_callVi (na := 1) (As := [.int x0]) (q0 := 0) (ci := 10) g (cX9_ends_  hf) q_i_X9_ends q_s_X9_ends rfl rfl rfl q_c_X9_ends q_l_X9_115 q_n_X9 (by decide +kernel) rfl hR hkn hcat (.refl _) (.refl _) hd kk rfl
set_option maxRecDepth 100000 in
set_option maxHeartbeats 4000000 in
theorem cX9_appoint_ {D : va_G} {t : Nat → ClassId} {E : gx_E} {l : Launch} {ad : Nat → Nat} {rs : va_W} {σ : OS} {p1 : Int32} {p2 : Int32} {p3 : Int32} {q : (Int32 × OS)} (hf : fX9_appoint σ p1 p2 p3 = some q) : gx_C D t E l yX9_appoint cX9_appoint 4 (some .int) 3 67 [.ref (ad 0), .int p1, .int p2, .int p3] (mC ad t σ ++ rs) (mC ad t q.2 ++ rs) (some (.int q.1)) := by
  refine gx_intro_i (by decide) (Nat.le_of_ble_eq_true rfl) (fun J g hE0 => ?_)
  have hE : ∀ (v : Int32) (σ : OS) (pc : Nat) (L : List (Nat × Value)), some (v, σ) = some q → decode cX9_appoint pc = .ok (.ireturn, 1) → narrow .int (.int v) = .int v → J 0 0 (mC ad t σ ++ rs) pc L [.int v] := fun v σ pc L h h1 h2 => by cases h; exact hE0 pc L h1 h2
  unfold fX9_appoint at hf
  show J 0 0 (mC ad t σ ++ rs) 0 [(0, .ref (ad 0)), (1, .int p1), (2, .int p2), (3, .int p3)] []
  refine j_aload_n (pc := 0) g 0 dX9_appoint_0 rfl ?_
  obtain ⟨r1, h_1, hf⟩ := gx_bs hf
  refine m9c_X9_remembers (pc := 1) g ⟨Nat.le_of_ble_eq_true rfl, Nat.le_of_ble_eq_true rfl⟩ ⟨Nat.zero_le _, Nat.zero_le _⟩ (Nat.le_of_ble_eq_true rfl) h_1 dX9_appoint_1 ?_
  refine j_aload_n (pc := 4) g 0 dX9_appoint_4 rfl ?_
  refine j_aload_n (pc := 5) g 0 dX9_appoint_5 rfl ?_
  refine j_iload_n (pc := 6) g 1 dX9_appoint_6 rfl ?_
  refine j_iload_n (pc := 7) g 2 dX9_appoint_7 rfl ?_
  refine j_iload_n (pc := 8) g 3 dX9_appoint_8 rfl ?_
  obtain ⟨r9, h_9, hf⟩ := gx_bs hf
  refine m9c_X9_adds (pc := 9) g ⟨Nat.le_of_ble_eq_true rfl, Nat.le_of_ble_eq_true rfl⟩ ⟨Nat.zero_le _, Nat.zero_le _⟩ (Nat.le_of_ble_eq_true rfl) h_9 dX9_appoint_9 ?_
  obtain ⟨r12, h_12, hf⟩ := gx_bs hf
  refine m9c_X9_ends (pc := 12) g ⟨Nat.le_of_ble_eq_true rfl, Nat.le_of_ble_eq_true rfl⟩ ⟨Nat.zero_le _, Nat.zero_le _⟩ (Nat.le_of_ble_eq_true rfl) h_12 dX9_appoint_12 ?_
  exact hE _ _ _ _ hf dX9_appoint_15 rfl
theorem m9c_X9_raises {D : va_G} {t : Nat → ClassId} {E : gx_E} {l : Launch} {R : Room} {cc : ByteArray} {nL : Nat} {J : gx_J} {ad : Nat → Nat} {rs : va_W} {k n pc : Nat} {L : List (Nat × Value)} {rest : List Value} (g : gx_G D t E l R cc RX9 nL J) {σ : OS} {x0 : Int32} {q : (Int32 × OS)} (hR : 2 + 1 ≤ R.frames ∧ 8 + (2 + 11) + 43 ≤ R.locals) (hkn : k ≤ R.cells ∧ n ≤ R.slots) (hcat : (rest.map fun v => v.category).sum ≤ 8) (hf : fX9_raises σ x0 = some q) (hd : decode cc pc = .ok (.invokevirtual 118, 3)) (kk : J k n (mC ad t q.2 ++ rs) (pc + 3) L (.int q.1 :: rest)) : J k n (mC ad t σ ++ rs) pc L (.int x0 :: .ref (ad 0) :: rest) := j_callVi (na := 1) (As := [.int x0]) (q0 := 0) (ci := 10) g (cX9_raises_  hf) q_i_X9_raises q_s_X9_raises rfl rfl rfl q_c_X9_raises q_l_X9_118 q_n_X9 (by decide +kernel) rfl hR hkn hcat (.refl _) (.refl _) hd kk rfl
set_option maxRecDepth 100000 in
set_option maxHeartbeats 4000000 in
theorem cX9_promote_ {D : va_G} {t : Nat → ClassId} {E : gx_E} {l : Launch} {ad : Nat → Nat} {rs : va_W} {σ : OS} {p1 : Int32} {q : (Int32 × OS)} (hf : fX9_promote σ p1 = some q) : gx_C D t E l yX9_promote cX9_promote 2 (some .int) 3 64 [.ref (ad 0), .int p1] (mC ad t σ ++ rs) (mC ad t q.2 ++ rs) (some (.int q.1)) := by
  refine gx_intro_i (by decide) (Nat.le_of_ble_eq_true rfl) (fun J g hE0 => ?_)
  have hE : ∀ (v : Int32) (σ : OS) (pc : Nat) (L : List (Nat × Value)), some (v, σ) = some q → decode cX9_promote pc = .ok (.ireturn, 1) → narrow .int (.int v) = .int v → J 0 0 (mC ad t σ ++ rs) pc L [.int v] := fun v σ pc L h h1 h2 => by cases h; exact hE0 pc L h1 h2
  unfold fX9_promote at hf
  show J 0 0 (mC ad t σ ++ rs) 0 [(0, .ref (ad 0)), (1, .int p1)] []
  refine j_aload_n (pc := 0) g 0 dX9_promote_0 rfl ?_
  obtain ⟨r1, h_1, hf⟩ := gx_bs hf
  refine m9c_X9_remembers (pc := 1) g ⟨Nat.le_of_ble_eq_true rfl, Nat.le_of_ble_eq_true rfl⟩ ⟨Nat.zero_le _, Nat.zero_le _⟩ (Nat.le_of_ble_eq_true rfl) h_1 dX9_promote_1 ?_
  refine j_aload_n (pc := 4) g 0 dX9_promote_4 rfl ?_
  refine j_aload_n (pc := 5) g 0 dX9_promote_5 rfl ?_
  refine j_iload_n (pc := 6) g 1 dX9_promote_6 rfl ?_
  obtain ⟨r7, h_7, hf⟩ := gx_bs hf
  refine m9c_X9_raises (pc := 7) g ⟨Nat.le_of_ble_eq_true rfl, Nat.le_of_ble_eq_true rfl⟩ ⟨Nat.zero_le _, Nat.zero_le _⟩ (Nat.le_of_ble_eq_true rfl) h_7 dX9_promote_7 ?_
  obtain ⟨r10, h_10, hf⟩ := gx_bs hf
  refine m9c_X9_ends (pc := 10) g ⟨Nat.le_of_ble_eq_true rfl, Nat.le_of_ble_eq_true rfl⟩ ⟨Nat.zero_le _, Nat.zero_le _⟩ (Nat.le_of_ble_eq_true rfl) h_10 dX9_promote_10 ?_
  exact hE _ _ _ _ hf dX9_promote_13 rfl
theorem m9c_X9_moves {D : va_G} {t : Nat → ClassId} {E : gx_E} {l : Launch} {R : Room} {cc : ByteArray} {nL : Nat} {J : gx_J} {ad : Nat → Nat} {rs : va_W} {k n pc : Nat} {L : List (Nat × Value)} {rest : List Value} (g : gx_G D t E l R cc RX9 nL J) {σ : OS} {x0 : Int32} {x1 : Int32} {q : (Int32 × OS)} (hR : 3 + 1 ≤ R.frames ∧ 8 + (3 + 11) + 68 ≤ R.locals) (hkn : k ≤ R.cells ∧ n ≤ R.slots) (hcat : (rest.map fun v => v.category).sum ≤ 8) (hf : fX9_moves σ x0 x1 = some q) (hd : decode cc pc = .ok (.invokevirtual 121, 3)) (kk : J k n (mC ad t q.2 ++ rs) (pc + 3) L (.int q.1 :: rest)) : J k n (mC ad t σ ++ rs) pc L (.int x1 :: .int x0 :: .ref (ad 0) :: rest) := j_callVi (na := 2) (As := [.int x0, .int x1]) (q0 := 0) (ci := 10) g (cX9_moves_  hf) q_i_X9_moves q_s_X9_moves rfl rfl rfl q_c_X9_moves q_l_X9_121 q_n_X9 (by decide +kernel) rfl hR hkn hcat (.refl _) (.refl _) hd kk rfl
set_option maxRecDepth 100000 in
set_option maxHeartbeats 4000000 in
theorem cX9_transfer_ {D : va_G} {t : Nat → ClassId} {E : gx_E} {l : Launch} {ad : Nat → Nat} {rs : va_W} {σ : OS} {p1 : Int32} {p2 : Int32} {q : (Int32 × OS)} (hf : fX9_transfer σ p1 p2 = some q) : gx_C D t E l yX9_transfer cX9_transfer 3 (some .int) 4 90 [.ref (ad 0), .int p1, .int p2] (mC ad t σ ++ rs) (mC ad t q.2 ++ rs) (some (.int q.1)) := by
  refine gx_intro_i (by decide) (Nat.le_of_ble_eq_true rfl) (fun J g hE0 => ?_)
  have hE : ∀ (v : Int32) (σ : OS) (pc : Nat) (L : List (Nat × Value)), some (v, σ) = some q → decode cX9_transfer pc = .ok (.ireturn, 1) → narrow .int (.int v) = .int v → J 0 0 (mC ad t σ ++ rs) pc L [.int v] := fun v σ pc L h h1 h2 => by cases h; exact hE0 pc L h1 h2
  unfold fX9_transfer at hf
  show J 0 0 (mC ad t σ ++ rs) 0 [(0, .ref (ad 0)), (1, .int p1), (2, .int p2)] []
  refine j_aload_n (pc := 0) g 0 dX9_transfer_0 rfl ?_
  obtain ⟨r1, h_1, hf⟩ := gx_bs hf
  refine m9c_X9_remembers (pc := 1) g ⟨Nat.le_of_ble_eq_true rfl, Nat.le_of_ble_eq_true rfl⟩ ⟨Nat.zero_le _, Nat.zero_le _⟩ (Nat.le_of_ble_eq_true rfl) h_1 dX9_transfer_1 ?_
  refine j_aload_n (pc := 4) g 0 dX9_transfer_4 rfl ?_
  refine j_aload_n (pc := 5) g 0 dX9_transfer_5 rfl ?_
  refine j_iload_n (pc := 6) g 1 dX9_transfer_6 rfl ?_
  refine j_iload_n (pc := 7) g 2 dX9_transfer_7 rfl ?_
  obtain ⟨r8, h_8, hf⟩ := gx_bs hf
  refine m9c_X9_moves (pc := 8) g ⟨Nat.le_of_ble_eq_true rfl, Nat.le_of_ble_eq_true rfl⟩ ⟨Nat.zero_le _, Nat.zero_le _⟩ (Nat.le_of_ble_eq_true rfl) h_8 dX9_transfer_8 ?_
  obtain ⟨r11, h_11, hf⟩ := gx_bs hf
  refine m9c_X9_ends (pc := 11) g ⟨Nat.le_of_ble_eq_true rfl, Nat.le_of_ble_eq_true rfl⟩ ⟨Nat.zero_le _, Nat.zero_le _⟩ (Nat.le_of_ble_eq_true rfl) h_11 dX9_transfer_11 ?_
  exact hE _ _ _ _ hf dX9_transfer_14 rfl
theorem m9c_X9_fires {D : va_G} {t : Nat → ClassId} {E : gx_E} {l : Launch} {R : Room} {cc : ByteArray} {nL : Nat} {J : gx_J} {ad : Nat → Nat} {rs : va_W} {k n pc : Nat} {L : List (Nat × Value)} {rest : List Value} (g : gx_G D t E l R cc RX9 nL J) {σ : OS} {x0 : Int32} {q : (Int32 × OS)} (hR : 3 + 1 ≤ R.frames ∧ 8 + (2 + 11) + 69 ≤ R.locals) (hkn : k ≤ R.cells ∧ n ≤ R.slots) (hcat : (rest.map fun v => v.category).sum ≤ 8) (hf : fX9_fires σ x0 = some q) (hd : decode cc pc = .ok (.invokevirtual 124, 3)) (kk : J k n (mC ad t q.2 ++ rs) (pc + 3) L (.int q.1 :: rest)) : J k n (mC ad t σ ++ rs) pc L (.int x0 :: .ref (ad 0) :: rest) := j_callVi (na := 1) (As := [.int x0]) (q0 := 0) (ci := 10) g (cX9_fires_  hf) q_i_X9_fires q_s_X9_fires rfl rfl rfl q_c_X9_fires q_l_X9_124 q_n_X9 (by decide +kernel) rfl hR hkn hcat (.refl _) (.refl _) hd kk rfl
set_option maxRecDepth 100000 in
set_option maxHeartbeats 4000000 in
theorem cX9_dismiss_ {D : va_G} {t : Nat → ClassId} {E : gx_E} {l : Launch} {ad : Nat → Nat} {rs : va_W} {σ : OS} {p1 : Int32} {q : (Int32 × OS)} (hf : fX9_dismiss σ p1 = some q) : gx_C D t E l yX9_dismiss cX9_dismiss 2 (some .int) 4 90 [.ref (ad 0), .int p1] (mC ad t σ ++ rs) (mC ad t q.2 ++ rs) (some (.int q.1)) := by
  refine gx_intro_i (by decide) (Nat.le_of_ble_eq_true rfl) (fun J g hE0 => ?_)
  have hE : ∀ (v : Int32) (σ : OS) (pc : Nat) (L : List (Nat × Value)), some (v, σ) = some q → decode cX9_dismiss pc = .ok (.ireturn, 1) → narrow .int (.int v) = .int v → J 0 0 (mC ad t σ ++ rs) pc L [.int v] := fun v σ pc L h h1 h2 => by cases h; exact hE0 pc L h1 h2
  unfold fX9_dismiss at hf
  show J 0 0 (mC ad t σ ++ rs) 0 [(0, .ref (ad 0)), (1, .int p1)] []
  refine j_aload_n (pc := 0) g 0 dX9_dismiss_0 rfl ?_
  obtain ⟨r1, h_1, hf⟩ := gx_bs hf
  refine m9c_X9_remembers (pc := 1) g ⟨Nat.le_of_ble_eq_true rfl, Nat.le_of_ble_eq_true rfl⟩ ⟨Nat.zero_le _, Nat.zero_le _⟩ (Nat.le_of_ble_eq_true rfl) h_1 dX9_dismiss_1 ?_
  refine j_aload_n (pc := 4) g 0 dX9_dismiss_4 rfl ?_
  refine j_aload_n (pc := 5) g 0 dX9_dismiss_5 rfl ?_
  refine j_iload_n (pc := 6) g 1 dX9_dismiss_6 rfl ?_
  obtain ⟨r7, h_7, hf⟩ := gx_bs hf
  refine m9c_X9_fires (pc := 7) g ⟨Nat.le_of_ble_eq_true rfl, Nat.le_of_ble_eq_true rfl⟩ ⟨Nat.zero_le _, Nat.zero_le _⟩ (Nat.le_of_ble_eq_true rfl) h_7 dX9_dismiss_7 ?_
  obtain ⟨r10, h_10, hf⟩ := gx_bs hf
  refine m9c_X9_ends (pc := 10) g ⟨Nat.le_of_ble_eq_true rfl, Nat.le_of_ble_eq_true rfl⟩ ⟨Nat.zero_le _, Nat.zero_le _⟩ (Nat.le_of_ble_eq_true rfl) h_10 dX9_dismiss_10 ?_
  exact hE _ _ _ _ hf dX9_dismiss_13 rfl
theorem m9c_X9_sends {D : va_G} {t : Nat → ClassId} {E : gx_E} {l : Launch} {R : Room} {cc : ByteArray} {nL : Nat} {J : gx_J} {ad : Nat → Nat} {rs : va_W} {k n pc : Nat} {L : List (Nat × Value)} {rest : List Value} (g : gx_G D t E l R cc RX9 nL J) {σ : OS} {x0 : Int32} {x1 : Int32} {x2 : Int32} {q : (Int32 × OS)} (hR : 2 + 1 ≤ R.frames ∧ 8 + (5 + 11) + 45 ≤ R.locals) (hkn : k ≤ R.cells ∧ n ≤ R.slots) (hcat : (rest.map fun v => v.category).sum ≤ 8) (hf : fX9_sends σ x0 x1 x2 = some q) (hd : decode cc pc = .ok (.invokevirtual 127, 3)) (kk : J k n (mC ad t q.2 ++ rs) (pc + 3) L (.int q.1 :: rest)) : J k n (mC ad t σ ++ rs) pc L (.int x2 :: .int x1 :: .int x0 :: .ref (ad 0) :: rest) := j_callVi (na := 3) (As := [.int x0, .int x1, .int x2]) (q0 := 0) (ci := 10) g (cX9_sends_  hf) q_i_X9_sends q_s_X9_sends rfl rfl rfl q_c_X9_sends q_l_X9_127 q_n_X9 (by decide +kernel) rfl hR hkn hcat (.refl _) (.refl _) hd kk rfl
set_option maxRecDepth 100000 in
set_option maxHeartbeats 4000000 in
theorem cX9_issue_ {D : va_G} {t : Nat → ClassId} {E : gx_E} {l : Launch} {ad : Nat → Nat} {rs : va_W} {σ : OS} {p1 : Int32} {p2 : Int32} {p3 : Int32} {q : (Int32 × OS)} (hf : fX9_issue σ p1 p2 p3 = some q) : gx_C D t E l yX9_issue cX9_issue 4 (some .int) 3 69 [.ref (ad 0), .int p1, .int p2, .int p3] (mC ad t σ ++ rs) (mC ad t q.2 ++ rs) (some (.int q.1)) := by
  refine gx_intro_i (by decide) (Nat.le_of_ble_eq_true rfl) (fun J g hE0 => ?_)
  have hE : ∀ (v : Int32) (σ : OS) (pc : Nat) (L : List (Nat × Value)), some (v, σ) = some q → decode cX9_issue pc = .ok (.ireturn, 1) → narrow .int (.int v) = .int v → J 0 0 (mC ad t σ ++ rs) pc L [.int v] := fun v σ pc L h h1 h2 => by cases h; exact hE0 pc L h1 h2
  unfold fX9_issue at hf
  show J 0 0 (mC ad t σ ++ rs) 0 [(0, .ref (ad 0)), (1, .int p1), (2, .int p2), (3, .int p3)] []
  refine j_aload_n (pc := 0) g 0 dX9_issue_0 rfl ?_
  obtain ⟨r1, h_1, hf⟩ := gx_bs hf
  refine m9c_X9_remembers (pc := 1) g ⟨Nat.le_of_ble_eq_true rfl, Nat.le_of_ble_eq_true rfl⟩ ⟨Nat.zero_le _, Nat.zero_le _⟩ (Nat.le_of_ble_eq_true rfl) h_1 dX9_issue_1 ?_
  refine j_aload_n (pc := 4) g 0 dX9_issue_4 rfl ?_
  refine j_aload_n (pc := 5) g 0 dX9_issue_5 rfl ?_
  refine j_iload_n (pc := 6) g 1 dX9_issue_6 rfl ?_
  refine j_iload_n (pc := 7) g 2 dX9_issue_7 rfl ?_
  refine j_iload_n (pc := 8) g 3 dX9_issue_8 rfl ?_
  obtain ⟨r9, h_9, hf⟩ := gx_bs hf
  refine m9c_X9_sends (pc := 9) g ⟨Nat.le_of_ble_eq_true rfl, Nat.le_of_ble_eq_true rfl⟩ ⟨Nat.zero_le _, Nat.zero_le _⟩ (Nat.le_of_ble_eq_true rfl) h_9 dX9_issue_9 ?_
  obtain ⟨r12, h_12, hf⟩ := gx_bs hf
  refine m9c_X9_ends (pc := 12) g ⟨Nat.le_of_ble_eq_true rfl, Nat.le_of_ble_eq_true rfl⟩ ⟨Nat.zero_le _, Nat.zero_le _⟩ (Nat.le_of_ble_eq_true rfl) h_12 dX9_issue_12 ?_
  exact hE _ _ _ _ hf dX9_issue_15 rfl
theorem m9c_X9_passes {D : va_G} {t : Nat → ClassId} {E : gx_E} {l : Launch} {R : Room} {cc : ByteArray} {nL : Nat} {J : gx_J} {ad : Nat → Nat} {rs : va_W} {k n pc : Nat} {L : List (Nat × Value)} {rest : List Value} (g : gx_G D t E l R cc RX9 nL J) {σ : OS} {x0 : Int32} {q : (Int32 × OS)} (hR : 5 + 1 ≤ R.frames ∧ 8 + (4 + 11) + 116 ≤ R.locals) (hkn : k ≤ R.cells ∧ n ≤ R.slots) (hcat : (rest.map fun v => v.category).sum ≤ 8) (hf : fX9_passes σ x0 = some q) (hd : decode cc pc = .ok (.invokevirtual 130, 3)) (kk : J k n (mC ad t q.2 ++ rs) (pc + 3) L (.int q.1 :: rest)) : J k n (mC ad t σ ++ rs) pc L (.int x0 :: .ref (ad 0) :: rest) := j_callVi (na := 1) (As := [.int x0]) (q0 := 0) (ci := 10) g (cX9_passes_  hf) q_i_X9_passes q_s_X9_passes rfl rfl rfl q_c_X9_passes q_l_X9_130 q_n_X9 (by decide +kernel) rfl hR hkn hcat (.refl _) (.refl _) hd kk rfl
set_option maxRecDepth 100000 in
set_option maxHeartbeats 4000000 in
theorem cX9_passHours_ {D : va_G} {t : Nat → ClassId} {E : gx_E} {l : Launch} {ad : Nat → Nat} {rs : va_W} {σ : OS} {p1 : Int32} {q : (Int32 × OS)} (hf : fX9_passHours σ p1 = some q) : gx_C D t E l yX9_passHours cX9_passHours 2 (some .int) 6 139 [.ref (ad 0), .int p1] (mC ad t σ ++ rs) (mC ad t q.2 ++ rs) (some (.int q.1)) := by
  refine gx_intro_i (by decide) (Nat.le_of_ble_eq_true rfl) (fun J g hE0 => ?_)
  have hE : ∀ (v : Int32) (σ : OS) (pc : Nat) (L : List (Nat × Value)), some (v, σ) = some q → decode cX9_passHours pc = .ok (.ireturn, 1) → narrow .int (.int v) = .int v → J 0 0 (mC ad t σ ++ rs) pc L [.int v] := fun v σ pc L h h1 h2 => by cases h; exact hE0 pc L h1 h2
  unfold fX9_passHours at hf
  show J 0 0 (mC ad t σ ++ rs) 0 [(0, .ref (ad 0)), (1, .int p1)] []
  refine j_aload_n (pc := 0) g 0 dX9_passHours_0 rfl ?_
  obtain ⟨r1, h_1, hf⟩ := gx_bs hf
  refine m9c_X9_remembers (pc := 1) g ⟨Nat.le_of_ble_eq_true rfl, Nat.le_of_ble_eq_true rfl⟩ ⟨Nat.zero_le _, Nat.zero_le _⟩ (Nat.le_of_ble_eq_true rfl) h_1 dX9_passHours_1 ?_
  refine j_aload_n (pc := 4) g 0 dX9_passHours_4 rfl ?_
  refine j_aload_n (pc := 5) g 0 dX9_passHours_5 rfl ?_
  refine j_iload_n (pc := 6) g 1 dX9_passHours_6 rfl ?_
  obtain ⟨r7, h_7, hf⟩ := gx_bs hf
  refine m9c_X9_passes (pc := 7) g ⟨Nat.le_of_ble_eq_true rfl, Nat.le_of_ble_eq_true rfl⟩ ⟨Nat.zero_le _, Nat.zero_le _⟩ (Nat.le_of_ble_eq_true rfl) h_7 dX9_passHours_7 ?_
  obtain ⟨r10, h_10, hf⟩ := gx_bs hf
  refine m9c_X9_ends (pc := 10) g ⟨Nat.le_of_ble_eq_true rfl, Nat.le_of_ble_eq_true rfl⟩ ⟨Nat.zero_le _, Nat.zero_le _⟩ (Nat.le_of_ble_eq_true rfl) h_10 dX9_passHours_10 ?_
  exact hE _ _ _ _ hf dX9_passHours_13 rfl
theorem m9c_X9_signs {D : va_G} {t : Nat → ClassId} {E : gx_E} {l : Launch} {R : Room} {cc : ByteArray} {nL : Nat} {J : gx_J} {ad : Nat → Nat} {rs : va_W} {k n pc : Nat} {L : List (Nat × Value)} {rest : List Value} (g : gx_G D t E l R cc RX9 nL J) {σ : OS} {x0 : Int32} {x1 : Int32} {x2 : Int32} {q : (Int32 × OS)} (hR : 2 + 1 ≤ R.frames ∧ 8 + (5 + 11) + 43 ≤ R.locals) (hkn : k ≤ R.cells ∧ n ≤ R.slots) (hcat : (rest.map fun v => v.category).sum ≤ 8) (hf : fX9_signs σ x0 x1 x2 = some q) (hd : decode cc pc = .ok (.invokevirtual 133, 3)) (kk : J k n (mC ad t q.2 ++ rs) (pc + 3) L (.int q.1 :: rest)) : J k n (mC ad t σ ++ rs) pc L (.int x2 :: .int x1 :: .int x0 :: .ref (ad 0) :: rest) := j_callVi (na := 3) (As := [.int x0, .int x1, .int x2]) (q0 := 0) (ci := 10) g (cX9_signs_  hf) q_i_X9_signs q_s_X9_signs rfl rfl rfl q_c_X9_signs q_l_X9_133 q_n_X9 (by decide +kernel) rfl hR hkn hcat (.refl _) (.refl _) hd kk rfl
set_option maxRecDepth 100000 in
set_option maxHeartbeats 4000000 in
theorem cX9_define_ {D : va_G} {t : Nat → ClassId} {E : gx_E} {l : Launch} {ad : Nat → Nat} {rs : va_W} {σ : OS} {p1 : Int32} {p2 : Int32} {p3 : Int32} {q : (Int32 × OS)} (hf : fX9_define σ p1 p2 p3 = some q) : gx_C D t E l yX9_define cX9_define 4 (some .int) 3 67 [.ref (ad 0), .int p1, .int p2, .int p3] (mC ad t σ ++ rs) (mC ad t q.2 ++ rs) (some (.int q.1)) := by
  refine gx_intro_i (by decide) (Nat.le_of_ble_eq_true rfl) (fun J g hE0 => ?_)
  have hE : ∀ (v : Int32) (σ : OS) (pc : Nat) (L : List (Nat × Value)), some (v, σ) = some q → decode cX9_define pc = .ok (.ireturn, 1) → narrow .int (.int v) = .int v → J 0 0 (mC ad t σ ++ rs) pc L [.int v] := fun v σ pc L h h1 h2 => by cases h; exact hE0 pc L h1 h2
  unfold fX9_define at hf
  show J 0 0 (mC ad t σ ++ rs) 0 [(0, .ref (ad 0)), (1, .int p1), (2, .int p2), (3, .int p3)] []
  refine j_aload_n (pc := 0) g 0 dX9_define_0 rfl ?_
  obtain ⟨r1, h_1, hf⟩ := gx_bs hf
  refine m9c_X9_remembers (pc := 1) g ⟨Nat.le_of_ble_eq_true rfl, Nat.le_of_ble_eq_true rfl⟩ ⟨Nat.zero_le _, Nat.zero_le _⟩ (Nat.le_of_ble_eq_true rfl) h_1 dX9_define_1 ?_
  refine j_aload_n (pc := 4) g 0 dX9_define_4 rfl ?_
  refine j_aload_n (pc := 5) g 0 dX9_define_5 rfl ?_
  refine j_iload_n (pc := 6) g 1 dX9_define_6 rfl ?_
  refine j_iload_n (pc := 7) g 2 dX9_define_7 rfl ?_
  refine j_iload_n (pc := 8) g 3 dX9_define_8 rfl ?_
  obtain ⟨r9, h_9, hf⟩ := gx_bs hf
  refine m9c_X9_signs (pc := 9) g ⟨Nat.le_of_ble_eq_true rfl, Nat.le_of_ble_eq_true rfl⟩ ⟨Nat.zero_le _, Nat.zero_le _⟩ (Nat.le_of_ble_eq_true rfl) h_9 dX9_define_9 ?_
  obtain ⟨r12, h_12, hf⟩ := gx_bs hf
  refine m9c_X9_ends (pc := 12) g ⟨Nat.le_of_ble_eq_true rfl, Nat.le_of_ble_eq_true rfl⟩ ⟨Nat.zero_le _, Nat.zero_le _⟩ (Nat.le_of_ble_eq_true rfl) h_12 dX9_define_12 ?_
  exact hE _ _ _ _ hf dX9_define_15 rfl
theorem m9c_X9_unsigns {D : va_G} {t : Nat → ClassId} {E : gx_E} {l : Launch} {R : Room} {cc : ByteArray} {nL : Nat} {J : gx_J} {ad : Nat → Nat} {rs : va_W} {k n pc : Nat} {L : List (Nat × Value)} {rest : List Value} (g : gx_G D t E l R cc RX9 nL J) {σ : OS} {x0 : Int32} {x1 : Int32} {q : (Int32 × OS)} (hR : 2 + 1 ≤ R.frames ∧ 8 + (7 + 11) + 43 ≤ R.locals) (hkn : k ≤ R.cells ∧ n ≤ R.slots) (hcat : (rest.map fun v => v.category).sum ≤ 8) (hf : fX9_unsigns σ x0 x1 = some q) (hd : decode cc pc = .ok (.invokevirtual 136, 3)) (kk : J k n (mC ad t q.2 ++ rs) (pc + 3) L (.int q.1 :: rest)) : J k n (mC ad t σ ++ rs) pc L (.int x1 :: .int x0 :: .ref (ad 0) :: rest) := j_callVi (na := 2) (As := [.int x0, .int x1]) (q0 := 0) (ci := 10) g (cX9_unsigns_  hf) q_i_X9_unsigns q_s_X9_unsigns rfl rfl rfl q_c_X9_unsigns q_l_X9_136 q_n_X9 (by decide +kernel) rfl hR hkn hcat (.refl _) (.refl _) hd kk rfl
set_option maxRecDepth 100000 in
set_option maxHeartbeats 4000000 in
theorem cX9_erase_ {D : va_G} {t : Nat → ClassId} {E : gx_E} {l : Launch} {ad : Nat → Nat} {rs : va_W} {σ : OS} {p1 : Int32} {p2 : Int32} {q : (Int32 × OS)} (hf : fX9_erase σ p1 p2 = some q) : gx_C D t E l yX9_erase cX9_erase 3 (some .int) 3 69 [.ref (ad 0), .int p1, .int p2] (mC ad t σ ++ rs) (mC ad t q.2 ++ rs) (some (.int q.1)) := by
  refine gx_intro_i (by decide) (Nat.le_of_ble_eq_true rfl) (fun J g hE0 => ?_)
  have hE : ∀ (v : Int32) (σ : OS) (pc : Nat) (L : List (Nat × Value)), some (v, σ) = some q → decode cX9_erase pc = .ok (.ireturn, 1) → narrow .int (.int v) = .int v → J 0 0 (mC ad t σ ++ rs) pc L [.int v] := fun v σ pc L h h1 h2 => by cases h; exact hE0 pc L h1 h2
  unfold fX9_erase at hf
  show J 0 0 (mC ad t σ ++ rs) 0 [(0, .ref (ad 0)), (1, .int p1), (2, .int p2)] []
  refine j_aload_n (pc := 0) g 0 dX9_erase_0 rfl ?_
  obtain ⟨r1, h_1, hf⟩ := gx_bs hf
  refine m9c_X9_remembers (pc := 1) g ⟨Nat.le_of_ble_eq_true rfl, Nat.le_of_ble_eq_true rfl⟩ ⟨Nat.zero_le _, Nat.zero_le _⟩ (Nat.le_of_ble_eq_true rfl) h_1 dX9_erase_1 ?_
  refine j_aload_n (pc := 4) g 0 dX9_erase_4 rfl ?_
  refine j_aload_n (pc := 5) g 0 dX9_erase_5 rfl ?_
  refine j_iload_n (pc := 6) g 1 dX9_erase_6 rfl ?_
  refine j_iload_n (pc := 7) g 2 dX9_erase_7 rfl ?_
  obtain ⟨r8, h_8, hf⟩ := gx_bs hf
  refine m9c_X9_unsigns (pc := 8) g ⟨Nat.le_of_ble_eq_true rfl, Nat.le_of_ble_eq_true rfl⟩ ⟨Nat.zero_le _, Nat.zero_le _⟩ (Nat.le_of_ble_eq_true rfl) h_8 dX9_erase_8 ?_
  obtain ⟨r11, h_11, hf⟩ := gx_bs hf
  refine m9c_X9_ends (pc := 11) g ⟨Nat.le_of_ble_eq_true rfl, Nat.le_of_ble_eq_true rfl⟩ ⟨Nat.zero_le _, Nat.zero_le _⟩ (Nat.le_of_ble_eq_true rfl) h_11 dX9_erase_11 ?_
  exact hE _ _ _ _ hf dX9_erase_14 rfl

set_option maxRecDepth 100000 in
set_option maxHeartbeats 4000000 in
theorem cX9_hour_ {D : va_G} {t : Nat → ClassId} {E : gx_E} {l : Launch} {ad : Nat → Nat} {rs : va_W} {σ : OS} {q : (Int32 × OS)} (hf : fX9_hour σ = some q) : gx_C D t E l yX9_hour cX9_hour 1 (some .int) 0 0 [.ref (ad 0)] (mC ad t σ ++ rs) (mC ad t q.2 ++ rs) (some (.int q.1)) := by
  refine gx_intro_i (by decide) (Nat.le_of_ble_eq_true rfl) (fun J g hE0 => ?_)
  have hE : ∀ (v : Int32) (σ : OS) (pc : Nat) (L : List (Nat × Value)), some (v, σ) = some q → decode cX9_hour pc = .ok (.ireturn, 1) → narrow .int (.int v) = .int v → J 0 0 (mC ad t σ ++ rs) pc L [.int v] := fun v σ pc L h h1 h2 => by cases h; exact hE0 pc L h1 h2
  unfold fX9_hour at hf
  show J 0 0 (mC ad t σ ++ rs) 0 [(0, .ref (ad 0))] []
  refine j_aload_n (pc := 0) g 0 dX9_hour_0 rfl ?_
  refine j_iconst (v := 0) (pc := 1) g dX9_hour_1 (by decide) ?_
  refine m9p_0 (pc := 2) g dX9_hour_2 ?_
  refine j_aload_n (pc := 5) g 0 dX9_hour_5 rfl ?_
  refine m9g_1 (pc := 6) g dX9_hour_6 ?_
  refine j_iconst (v := 1) (pc := 9) g dX9_hour_9 (by decide) ?_
  obtain ⟨h_10, hf⟩ := gx_ck hf
  refine m9l_1 (pc := 10) g h_10 dX9_hour_10 ?_
  exact hE _ _ _ _ hf dX9_hour_11 rfl
theorem m9c_X9_many {D : va_G} {t : Nat → ClassId} {E : gx_E} {l : Launch} {R : Room} {cc : ByteArray} {nL : Nat} {J : gx_J} {ad : Nat → Nat} {rs : va_W} {k n pc : Nat} {L : List (Nat × Value)} {rest : List Value} (g : gx_G D t E l R cc RX9 nL J) {σ : OS} {q : Int32} (hR : 1 + 1 ≤ R.frames ∧ 8 + (3 + 11) + 22 ≤ R.locals) (hkn : k ≤ R.cells ∧ n ≤ R.slots) (hcat : (rest.map fun v => v.category).sum ≤ 8) (hf : fX9_many σ = some q) (hd : decode cc pc = .ok (.invokevirtual 139, 3)) (kk : J k n (mC ad t σ ++ rs) (pc + 3) L (.int q :: rest)) : J k n (mC ad t σ ++ rs) pc L (.ref (ad 0) :: rest) := j_callVi (na := 0) (As := []) (q0 := 0) (ci := 10) g (cX9_many_  hf) q_i_X9_many q_s_X9_many rfl rfl rfl q_c_X9_many q_l_X9_139 q_n_X9 (by decide +kernel) rfl hR hkn hcat (.refl _) (.refl _) hd kk rfl
set_option maxRecDepth 100000 in
set_option maxHeartbeats 4000000 in
theorem cX9_officerCount_ {D : va_G} {t : Nat → ClassId} {E : gx_E} {l : Launch} {ad : Nat → Nat} {rs : va_W} {σ : OS} {q : (Int32 × OS)} (hf : fX9_officerCount σ = some q) : gx_C D t E l yX9_officerCount cX9_officerCount 1 (some .int) 2 44 [.ref (ad 0)] (mC ad t σ ++ rs) (mC ad t q.2 ++ rs) (some (.int q.1)) := by
  refine gx_intro_i (by decide) (Nat.le_of_ble_eq_true rfl) (fun J g hE0 => ?_)
  have hE : ∀ (v : Int32) (σ : OS) (pc : Nat) (L : List (Nat × Value)), some (v, σ) = some q → decode cX9_officerCount pc = .ok (.ireturn, 1) → narrow .int (.int v) = .int v → J 0 0 (mC ad t σ ++ rs) pc L [.int v] := fun v σ pc L h h1 h2 => by cases h; exact hE0 pc L h1 h2
  unfold fX9_officerCount at hf
  show J 0 0 (mC ad t σ ++ rs) 0 [(0, .ref (ad 0))] []
  refine j_aload_n (pc := 0) g 0 dX9_officerCount_0 rfl ?_
  refine j_iconst (v := 0) (pc := 1) g dX9_officerCount_1 (by decide) ?_
  refine m9p_0 (pc := 2) g dX9_officerCount_2 ?_
  refine j_aload_n (pc := 5) g 0 dX9_officerCount_5 rfl ?_
  obtain ⟨r6, h_6, hf⟩ := gx_bs hf
  refine m9c_X9_many (pc := 6) g ⟨Nat.le_of_ble_eq_true rfl, Nat.le_of_ble_eq_true rfl⟩ ⟨Nat.zero_le _, Nat.zero_le _⟩ (Nat.le_of_ble_eq_true rfl) h_6 dX9_officerCount_6 ?_
  exact hE _ _ _ _ hf dX9_officerCount_9 rfl

set_option maxRecDepth 100000 in
set_option maxHeartbeats 4000000 in
theorem cX9_appointedCount_ {D : va_G} {t : Nat → ClassId} {E : gx_E} {l : Launch} {ad : Nat → Nat} {rs : va_W} {σ : OS} {q : (Int32 × OS)} (hf : fX9_appointedCount σ = some q) : gx_C D t E l yX9_appointedCount cX9_appointedCount 1 (some .int) 0 0 [.ref (ad 0)] (mC ad t σ ++ rs) (mC ad t q.2 ++ rs) (some (.int q.1)) := by
  refine gx_intro_i (by decide) (Nat.le_of_ble_eq_true rfl) (fun J g hE0 => ?_)
  have hE : ∀ (v : Int32) (σ : OS) (pc : Nat) (L : List (Nat × Value)), some (v, σ) = some q → decode cX9_appointedCount pc = .ok (.ireturn, 1) → narrow .int (.int v) = .int v → J 0 0 (mC ad t σ ++ rs) pc L [.int v] := fun v σ pc L h h1 h2 => by cases h; exact hE0 pc L h1 h2
  unfold fX9_appointedCount at hf
  show J 0 0 (mC ad t σ ++ rs) 0 [(0, .ref (ad 0))] []
  refine j_aload_n (pc := 0) g 0 dX9_appointedCount_0 rfl ?_
  refine j_iconst (v := 0) (pc := 1) g dX9_appointedCount_1 (by decide) ?_
  refine m9p_0 (pc := 2) g dX9_appointedCount_2 ?_
  refine j_aload_n (pc := 5) g 0 dX9_appointedCount_5 rfl ?_
  refine m9g_1 (pc := 6) g dX9_appointedCount_6 ?_
  refine j_iconst (v := 0) (pc := 9) g dX9_appointedCount_9 (by decide) ?_
  obtain ⟨h_10, hf⟩ := gx_ck hf
  refine m9l_1 (pc := 10) g h_10 dX9_appointedCount_10 ?_
  exact hE _ _ _ _ hf dX9_appointedCount_11 rfl

set_option maxRecDepth 100000 in
set_option maxHeartbeats 4000000 in
theorem cX9_isInNavy_ {D : va_G} {t : Nat → ClassId} {E : gx_E} {l : Launch} {ad : Nat → Nat} {rs : va_W} {σ : OS} {p1 : Int32} {q : (Int32 × OS)} (hf : fX9_isInNavy σ p1 = some q) : gx_C D t E l yX9_isInNavy cX9_isInNavy 2 (some .boolean) 2 43 [.ref (ad 0), .int p1] (mC ad t σ ++ rs) (mC ad t q.2 ++ rs) (some (.int q.1)) := by
  refine gx_intro_i (by decide) (Nat.le_of_ble_eq_true rfl) (fun J g hE0 => ?_)
  have hE : ∀ (v : Int32) (σ : OS) (pc : Nat) (L : List (Nat × Value)), some (v, σ) = some q → decode cX9_isInNavy pc = .ok (.ireturn, 1) → narrow .boolean (.int v) = .int v → J 0 0 (mC ad t σ ++ rs) pc L [.int v] := fun v σ pc L h h1 h2 => by cases h; exact hE0 pc L h1 h2
  unfold fX9_isInNavy at hf
  show J 0 0 (mC ad t σ ++ rs) 0 [(0, .ref (ad 0)), (1, .int p1)] []
  refine j_aload_n (pc := 0) g 0 dX9_isInNavy_0 rfl ?_
  refine j_iconst (v := 0) (pc := 1) g dX9_isInNavy_1 (by decide) ?_
  refine m9p_0 (pc := 2) g dX9_isInNavy_2 ?_
  refine j_aload_n (pc := 5) g 0 dX9_isInNavy_5 rfl ?_
  refine j_iload_n (pc := 6) g 1 dX9_isInNavy_6 rfl ?_
  obtain ⟨r7, h_7, hf⟩ := gx_bs hf
  refine m9c_X9_is (pc := 7) g ⟨Nat.le_of_ble_eq_true rfl, Nat.le_of_ble_eq_true rfl⟩ ⟨Nat.zero_le _, Nat.zero_le _⟩ (Nat.le_of_ble_eq_true rfl) h_7 dX9_isInNavy_7 ?_
  obtain ⟨h_r, hf⟩ := gx_ck hf
  exact hE _ _ _ _ hf dX9_isInNavy_10 (gx_narZ h_r)

set_option maxRecDepth 100000 in
set_option maxHeartbeats 4000000 in
theorem cX9_isAsked_ {D : va_G} {t : Nat → ClassId} {E : gx_E} {l : Launch} {ad : Nat → Nat} {rs : va_W} {σ : OS} {p1 : Int32} {q : (Int32 × OS)} (hf : fX9_isAsked σ p1 = some q) : gx_C D t E l yX9_isAsked cX9_isAsked 2 (some .boolean) 2 43 [.ref (ad 0), .int p1] (mC ad t σ ++ rs) (mC ad t q.2 ++ rs) (some (.int q.1)) := by
  refine gx_intro_i (by decide) (Nat.le_of_ble_eq_true rfl) (fun J g hE0 => ?_)
  have hE : ∀ (v : Int32) (σ : OS) (pc : Nat) (L : List (Nat × Value)), some (v, σ) = some q → decode cX9_isAsked pc = .ok (.ireturn, 1) → narrow .boolean (.int v) = .int v → J 0 0 (mC ad t σ ++ rs) pc L [.int v] := fun v σ pc L h h1 h2 => by cases h; exact hE0 pc L h1 h2
  unfold fX9_isAsked at hf
  show J 0 0 (mC ad t σ ++ rs) 0 [(0, .ref (ad 0)), (1, .int p1)] []
  refine j_aload_n (pc := 0) g 0 dX9_isAsked_0 rfl ?_
  refine j_aload_n (pc := 1) g 0 dX9_isAsked_1 rfl ?_
  refine j_iload_n (pc := 2) g 1 dX9_isAsked_2 rfl ?_
  obtain ⟨r3, h_3, hf⟩ := gx_bs hf
  refine m9c_X9_is (pc := 3) g ⟨Nat.le_of_ble_eq_true rfl, Nat.le_of_ble_eq_true rfl⟩ ⟨Nat.zero_le _, Nat.zero_le _⟩ (Nat.le_of_ble_eq_true rfl) h_3 dX9_isAsked_3 ?_
  refine j_if_eq (tgt := 13) (pc := 6) g dX9_isAsked_6 (by decide) (fun c_6 => ?_) (fun c_6 => ?_)
  · have hf := gx_it c_6 hf
    refine j_iconst (v := 1) (pc := 13) g dX9_isAsked_13 (by decide) ?_
    refine m9p_0 (pc := 14) g dX9_isAsked_14 ?_
    refine j_aload_n (pc := 17) g 0 dX9_isAsked_17 rfl ?_
    refine m9g_0 (pc := 18) g dX9_isAsked_18 ?_
    refine j_if_ne (tgt := 28) (pc := 21) g dX9_isAsked_21 (by decide) (fun c_21 => ?_) (fun c_21 => ?_)
    · have hf := gx_if c_21 hf
      refine j_iconst (v := 0) (pc := 28) g dX9_isAsked_28 (by decide) ?_
      exact hE _ _ _ _ hf dX9_isAsked_29 rfl
    · have hf := gx_it c_21 hf
      refine j_iconst (v := 1) (pc := 24) g dX9_isAsked_24 (by decide) ?_
      refine j_goto (tgt := 29) (pc := 25) g dX9_isAsked_25 (by decide) ?_
      exact hE _ _ _ _ hf dX9_isAsked_29 rfl
  · have hf := gx_if c_6 hf
    refine j_iconst (v := 0) (pc := 9) g dX9_isAsked_9 (by decide) ?_
    refine j_goto (tgt := 14) (pc := 10) g dX9_isAsked_10 (by decide) ?_
    refine m9p_0 (pc := 14) g dX9_isAsked_14 ?_
    refine j_aload_n (pc := 17) g 0 dX9_isAsked_17 rfl ?_
    refine m9g_0 (pc := 18) g dX9_isAsked_18 ?_
    refine j_if_ne (tgt := 28) (pc := 21) g dX9_isAsked_21 (by decide) (fun c_21 => ?_) (fun c_21 => ?_)
    · have hf := gx_if c_21 hf
      refine j_iconst (v := 0) (pc := 28) g dX9_isAsked_28 (by decide) ?_
      exact hE _ _ _ _ hf dX9_isAsked_29 rfl
    · have hf := gx_it c_21 hf
      refine j_iconst (v := 1) (pc := 24) g dX9_isAsked_24 (by decide) ?_
      refine j_goto (tgt := 29) (pc := 25) g dX9_isAsked_25 (by decide) ?_
      exact hE _ _ _ _ hf dX9_isAsked_29 rfl
theorem m9c_X9_isAsked {D : va_G} {t : Nat → ClassId} {E : gx_E} {l : Launch} {R : Room} {cc : ByteArray} {nL : Nat} {J : gx_J} {ad : Nat → Nat} {rs : va_W} {k n pc : Nat} {L : List (Nat × Value)} {rest : List Value} (g : gx_G D t E l R cc RX9 nL J) {σ : OS} {x0 : Int32} {q : (Int32 × OS)} (hR : 2 + 1 ≤ R.frames ∧ 8 + (2 + 11) + 43 ≤ R.locals) (hkn : k ≤ R.cells ∧ n ≤ R.slots) (hcat : (rest.map fun v => v.category).sum ≤ 8) (hf : fX9_isAsked σ x0 = some q) (hd : decode cc pc = .ok (.invokevirtual 143, 3)) (kk : J k n (mC ad t q.2 ++ rs) (pc + 3) L (.int q.1 :: rest)) : J k n (mC ad t σ ++ rs) pc L (.int x0 :: .ref (ad 0) :: rest) := j_callVi (na := 1) (As := [.int x0]) (q0 := 0) (ci := 10) g (cX9_isAsked_  hf) q_i_X9_isAsked q_s_X9_isAsked rfl rfl rfl q_c_X9_isAsked q_l_X9_143 q_n_X9 (by decide +kernel) rfl hR hkn hcat (.refl _) (.refl _) hd kk rfl
set_option maxRecDepth 100000 in
set_option maxHeartbeats 4000000 in
theorem cX9_rank_ {D : va_G} {t : Nat → ClassId} {E : gx_E} {l : Launch} {ad : Nat → Nat} {rs : va_W} {σ : OS} {p1 : Int32} {q : (Int32 × OS)} (hf : fX9_rank σ p1 = some q) : gx_C D t E l yX9_rank cX9_rank 2 (some .int) 3 64 [.ref (ad 0), .int p1] (mC ad t σ ++ rs) (mC ad t q.2 ++ rs) (some (.int q.1)) := by
  refine gx_intro_i (by decide) (Nat.le_of_ble_eq_true rfl) (fun J g hE0 => ?_)
  have hE : ∀ (v : Int32) (σ : OS) (pc : Nat) (L : List (Nat × Value)), some (v, σ) = some q → decode cX9_rank pc = .ok (.ireturn, 1) → narrow .int (.int v) = .int v → J 0 0 (mC ad t σ ++ rs) pc L [.int v] := fun v σ pc L h h1 h2 => by cases h; exact hE0 pc L h1 h2
  unfold fX9_rank at hf
  show J 0 0 (mC ad t σ ++ rs) 0 [(0, .ref (ad 0)), (1, .int p1)] []
  refine j_aload_n (pc := 0) g 0 dX9_rank_0 rfl ?_
  refine j_iload_n (pc := 1) g 1 dX9_rank_1 rfl ?_
  obtain ⟨r2, h_2, hf⟩ := gx_bs hf
  refine m9c_X9_isAsked (pc := 2) g ⟨Nat.le_of_ble_eq_true rfl, Nat.le_of_ble_eq_true rfl⟩ ⟨Nat.zero_le _, Nat.zero_le _⟩ (Nat.le_of_ble_eq_true rfl) h_2 dX9_rank_2 ?_
  refine j_if_eq (tgt := 17) (pc := 5) g dX9_rank_5 (by decide) (fun c_5 => ?_) (fun c_5 => ?_)
  · have hf := gx_it c_5 hf
    refine j_iconst (v := 0) (pc := 17) g dX9_rank_17 (by decide) ?_
    exact hE _ _ _ _ hf dX9_rank_18 rfl
  · have hf := gx_if c_5 hf
    refine j_aload_n (pc := 8) g 0 dX9_rank_8 rfl ?_
    refine j_iload_n (pc := 9) g 1 dX9_rank_9 rfl ?_
    refine j_iconst (v := 1) (pc := 10) g dX9_rank_10 (by decide) ?_
    obtain ⟨r11, h_11, hf⟩ := gx_bs hf
    refine m9c_X9_of (pc := 11) g ⟨Nat.le_of_ble_eq_true rfl, Nat.le_of_ble_eq_true rfl⟩ ⟨Nat.zero_le _, Nat.zero_le _⟩ (Nat.le_of_ble_eq_true rfl) h_11 dX9_rank_11 ?_
    refine j_goto (tgt := 18) (pc := 14) g dX9_rank_14 (by decide) ?_
    exact hE _ _ _ _ hf dX9_rank_18 rfl

set_option maxRecDepth 100000 in
set_option maxHeartbeats 4000000 in
theorem cX9_loyalty_ {D : va_G} {t : Nat → ClassId} {E : gx_E} {l : Launch} {ad : Nat → Nat} {rs : va_W} {σ : OS} {p1 : Int32} {q : (Int32 × OS)} (hf : fX9_loyalty σ p1 = some q) : gx_C D t E l yX9_loyalty cX9_loyalty 2 (some .int) 3 64 [.ref (ad 0), .int p1] (mC ad t σ ++ rs) (mC ad t q.2 ++ rs) (some (.int q.1)) := by
  refine gx_intro_i (by decide) (Nat.le_of_ble_eq_true rfl) (fun J g hE0 => ?_)
  have hE : ∀ (v : Int32) (σ : OS) (pc : Nat) (L : List (Nat × Value)), some (v, σ) = some q → decode cX9_loyalty pc = .ok (.ireturn, 1) → narrow .int (.int v) = .int v → J 0 0 (mC ad t σ ++ rs) pc L [.int v] := fun v σ pc L h h1 h2 => by cases h; exact hE0 pc L h1 h2
  unfold fX9_loyalty at hf
  show J 0 0 (mC ad t σ ++ rs) 0 [(0, .ref (ad 0)), (1, .int p1)] []
  refine j_aload_n (pc := 0) g 0 dX9_loyalty_0 rfl ?_
  refine j_iload_n (pc := 1) g 1 dX9_loyalty_1 rfl ?_
  obtain ⟨r2, h_2, hf⟩ := gx_bs hf
  refine m9c_X9_isAsked (pc := 2) g ⟨Nat.le_of_ble_eq_true rfl, Nat.le_of_ble_eq_true rfl⟩ ⟨Nat.zero_le _, Nat.zero_le _⟩ (Nat.le_of_ble_eq_true rfl) h_2 dX9_loyalty_2 ?_
  refine j_if_eq (tgt := 17) (pc := 5) g dX9_loyalty_5 (by decide) (fun c_5 => ?_) (fun c_5 => ?_)
  · have hf := gx_it c_5 hf
    refine j_iconst (v := 0) (pc := 17) g dX9_loyalty_17 (by decide) ?_
    exact hE _ _ _ _ hf dX9_loyalty_18 rfl
  · have hf := gx_if c_5 hf
    refine j_aload_n (pc := 8) g 0 dX9_loyalty_8 rfl ?_
    refine j_iload_n (pc := 9) g 1 dX9_loyalty_9 rfl ?_
    refine j_iconst (v := 2) (pc := 10) g dX9_loyalty_10 (by decide) ?_
    obtain ⟨r11, h_11, hf⟩ := gx_bs hf
    refine m9c_X9_of (pc := 11) g ⟨Nat.le_of_ble_eq_true rfl, Nat.le_of_ble_eq_true rfl⟩ ⟨Nat.zero_le _, Nat.zero_le _⟩ (Nat.le_of_ble_eq_true rfl) h_11 dX9_loyalty_11 ?_
    refine j_goto (tgt := 18) (pc := 14) g dX9_loyalty_14 (by decide) ?_
    exact hE _ _ _ _ hf dX9_loyalty_18 rfl

set_option maxRecDepth 100000 in
set_option maxHeartbeats 4000000 in
theorem cX9_refusals_ {D : va_G} {t : Nat → ClassId} {E : gx_E} {l : Launch} {ad : Nat → Nat} {rs : va_W} {σ : OS} {p1 : Int32} {q : (Int32 × OS)} (hf : fX9_refusals σ p1 = some q) : gx_C D t E l yX9_refusals cX9_refusals 2 (some .int) 3 64 [.ref (ad 0), .int p1] (mC ad t σ ++ rs) (mC ad t q.2 ++ rs) (some (.int q.1)) := by
  refine gx_intro_i (by decide) (Nat.le_of_ble_eq_true rfl) (fun J g hE0 => ?_)
  have hE : ∀ (v : Int32) (σ : OS) (pc : Nat) (L : List (Nat × Value)), some (v, σ) = some q → decode cX9_refusals pc = .ok (.ireturn, 1) → narrow .int (.int v) = .int v → J 0 0 (mC ad t σ ++ rs) pc L [.int v] := fun v σ pc L h h1 h2 => by cases h; exact hE0 pc L h1 h2
  unfold fX9_refusals at hf
  show J 0 0 (mC ad t σ ++ rs) 0 [(0, .ref (ad 0)), (1, .int p1)] []
  refine j_aload_n (pc := 0) g 0 dX9_refusals_0 rfl ?_
  refine j_iload_n (pc := 1) g 1 dX9_refusals_1 rfl ?_
  obtain ⟨r2, h_2, hf⟩ := gx_bs hf
  refine m9c_X9_isAsked (pc := 2) g ⟨Nat.le_of_ble_eq_true rfl, Nat.le_of_ble_eq_true rfl⟩ ⟨Nat.zero_le _, Nat.zero_le _⟩ (Nat.le_of_ble_eq_true rfl) h_2 dX9_refusals_2 ?_
  refine j_if_eq (tgt := 17) (pc := 5) g dX9_refusals_5 (by decide) (fun c_5 => ?_) (fun c_5 => ?_)
  · have hf := gx_it c_5 hf
    refine j_iconst (v := 0) (pc := 17) g dX9_refusals_17 (by decide) ?_
    exact hE _ _ _ _ hf dX9_refusals_18 rfl
  · have hf := gx_if c_5 hf
    refine j_aload_n (pc := 8) g 0 dX9_refusals_8 rfl ?_
    refine j_iload_n (pc := 9) g 1 dX9_refusals_9 rfl ?_
    refine j_iconst (v := 3) (pc := 10) g dX9_refusals_10 (by decide) ?_
    obtain ⟨r11, h_11, hf⟩ := gx_bs hf
    refine m9c_X9_of (pc := 11) g ⟨Nat.le_of_ble_eq_true rfl, Nat.le_of_ble_eq_true rfl⟩ ⟨Nat.zero_le _, Nat.zero_le _⟩ (Nat.le_of_ble_eq_true rfl) h_11 dX9_refusals_11 ?_
    refine j_goto (tgt := 18) (pc := 14) g dX9_refusals_14 (by decide) ?_
    exact hE _ _ _ _ hf dX9_refusals_18 rfl

set_option maxRecDepth 100000 in
set_option maxHeartbeats 4000000 in
theorem cX9_superior_ {D : va_G} {t : Nat → ClassId} {E : gx_E} {l : Launch} {ad : Nat → Nat} {rs : va_W} {σ : OS} {p1 : Int32} {q : (Int32 × OS)} (hf : fX9_superior σ p1 = some q) : gx_C D t E l yX9_superior cX9_superior 2 (some .int) 2 43 [.ref (ad 0), .int p1] (mC ad t σ ++ rs) (mC ad t q.2 ++ rs) (some (.int q.1)) := by
  refine gx_intro_i (by decide) (Nat.le_of_ble_eq_true rfl) (fun J g hE0 => ?_)
  have hE : ∀ (v : Int32) (σ : OS) (pc : Nat) (L : List (Nat × Value)), some (v, σ) = some q → decode cX9_superior pc = .ok (.ireturn, 1) → narrow .int (.int v) = .int v → J 0 0 (mC ad t σ ++ rs) pc L [.int v] := fun v σ pc L h h1 h2 => by cases h; exact hE0 pc L h1 h2
  unfold fX9_superior at hf
  show J 0 0 (mC ad t σ ++ rs) 0 [(0, .ref (ad 0)), (1, .int p1)] []
  refine j_aload_n (pc := 0) g 0 dX9_superior_0 rfl ?_
  refine j_aload_n (pc := 1) g 0 dX9_superior_1 rfl ?_
  refine j_iload_n (pc := 2) g 1 dX9_superior_2 rfl ?_
  obtain ⟨r3, h_3, hf⟩ := gx_bs hf
  refine m9c_X9_is (pc := 3) g ⟨Nat.le_of_ble_eq_true rfl, Nat.le_of_ble_eq_true rfl⟩ ⟨Nat.zero_le _, Nat.zero_le _⟩ (Nat.le_of_ble_eq_true rfl) h_3 dX9_superior_3 ?_
  refine j_if_ne (tgt := 13) (pc := 6) g dX9_superior_6 (by decide) (fun c_6 => ?_) (fun c_6 => ?_)
  · have hf := gx_if c_6 hf
    refine j_iload_n (pc := 13) g 1 dX9_superior_13 rfl ?_
    refine j_if_ne (tgt := 21) (pc := 14) g dX9_superior_14 (by decide) (fun c_14 => ?_) (fun c_14 => ?_)
    · have hf := gx_if c_14 hf
      refine j_iconst (v := 0) (pc := 21) g dX9_superior_21 (by decide) ?_
      refine m9p_0 (pc := 22) g dX9_superior_22 ?_
      refine j_aload_n (pc := 25) g 0 dX9_superior_25 rfl ?_
      refine m9g_0 (pc := 26) g dX9_superior_26 ?_
      refine j_if_le (tgt := 36) (pc := 29) g dX9_superior_29 (by decide) (fun c_29 => ?_) (fun c_29 => ?_)
      · have hf := gx_it c_29 hf
        refine j_aload_n (pc := 36) g 0 dX9_superior_36 rfl ?_
        refine j_iload_n (pc := 37) g 1 dX9_superior_37 rfl ?_
        refine j_iconst (v := 4) (pc := 38) g dX9_superior_38 (by decide) ?_
        obtain ⟨r39, h_39, hf⟩ := gx_bs hf
        refine m9c_X9_of (pc := 39) g ⟨Nat.le_of_ble_eq_true rfl, Nat.le_of_ble_eq_true rfl⟩ ⟨Nat.zero_le _, Nat.zero_le _⟩ (Nat.le_of_ble_eq_true rfl) h_39 dX9_superior_39 ?_
        exact hE _ _ _ _ hf dX9_superior_42 rfl
      · have hf := gx_if c_29 hf
        refine j_iconst (v := 0) (pc := 32) g dX9_superior_32 (by decide) ?_
        refine j_goto (tgt := 42) (pc := 33) g dX9_superior_33 (by decide) ?_
        exact hE _ _ _ _ hf dX9_superior_42 rfl
    · have hf := gx_it c_14 hf
      refine j_iconst (v := 2) (pc := 17) g dX9_superior_17 (by decide) ?_
      refine j_goto (tgt := 22) (pc := 18) g dX9_superior_18 (by decide) ?_
      refine m9p_0 (pc := 22) g dX9_superior_22 ?_
      refine j_aload_n (pc := 25) g 0 dX9_superior_25 rfl ?_
      refine m9g_0 (pc := 26) g dX9_superior_26 ?_
      refine j_if_le (tgt := 36) (pc := 29) g dX9_superior_29 (by decide) (fun c_29 => ?_) (fun c_29 => ?_)
      · have hf := gx_it c_29 hf
        refine j_aload_n (pc := 36) g 0 dX9_superior_36 rfl ?_
        refine j_iload_n (pc := 37) g 1 dX9_superior_37 rfl ?_
        refine j_iconst (v := 4) (pc := 38) g dX9_superior_38 (by decide) ?_
        obtain ⟨r39, h_39, hf⟩ := gx_bs hf
        refine m9c_X9_of (pc := 39) g ⟨Nat.le_of_ble_eq_true rfl, Nat.le_of_ble_eq_true rfl⟩ ⟨Nat.zero_le _, Nat.zero_le _⟩ (Nat.le_of_ble_eq_true rfl) h_39 dX9_superior_39 ?_
        exact hE _ _ _ _ hf dX9_superior_42 rfl
      · have hf := gx_if c_29 hf
        refine j_iconst (v := 0) (pc := 32) g dX9_superior_32 (by decide) ?_
        refine j_goto (tgt := 42) (pc := 33) g dX9_superior_33 (by decide) ?_
        exact hE _ _ _ _ hf dX9_superior_42 rfl
  · have hf := gx_it c_6 hf
    refine j_iconst (v := 1) (pc := 9) g dX9_superior_9 (by decide) ?_
    refine j_goto (tgt := 22) (pc := 10) g dX9_superior_10 (by decide) ?_
    refine m9p_0 (pc := 22) g dX9_superior_22 ?_
    refine j_aload_n (pc := 25) g 0 dX9_superior_25 rfl ?_
    refine m9g_0 (pc := 26) g dX9_superior_26 ?_
    refine j_if_le (tgt := 36) (pc := 29) g dX9_superior_29 (by decide) (fun c_29 => ?_) (fun c_29 => ?_)
    · have hf := gx_it c_29 hf
      refine j_aload_n (pc := 36) g 0 dX9_superior_36 rfl ?_
      refine j_iload_n (pc := 37) g 1 dX9_superior_37 rfl ?_
      refine j_iconst (v := 4) (pc := 38) g dX9_superior_38 (by decide) ?_
      obtain ⟨r39, h_39, hf⟩ := gx_bs hf
      refine m9c_X9_of (pc := 39) g ⟨Nat.le_of_ble_eq_true rfl, Nat.le_of_ble_eq_true rfl⟩ ⟨Nat.zero_le _, Nat.zero_le _⟩ (Nat.le_of_ble_eq_true rfl) h_39 dX9_superior_39 ?_
      exact hE _ _ _ _ hf dX9_superior_42 rfl
    · have hf := gx_if c_29 hf
      refine j_iconst (v := 0) (pc := 32) g dX9_superior_32 (by decide) ?_
      refine j_goto (tgt := 42) (pc := 33) g dX9_superior_33 (by decide) ?_
      exact hE _ _ _ _ hf dX9_superior_42 rfl

set_option maxRecDepth 100000 in
set_option maxHeartbeats 4000000 in
theorem cX9_subordinates_ {D : va_G} {t : Nat → ClassId} {E : gx_E} {l : Launch} {ad : Nat → Nat} {rs : va_W} {σ : OS} {p1 : Int32} {q : (Int32 × OS)} (hf : fX9_subordinates σ p1 = some q) : gx_C D t E l yX9_subordinates cX9_subordinates 2 (some .int) 3 64 [.ref (ad 0), .int p1] (mC ad t σ ++ rs) (mC ad t q.2 ++ rs) (some (.int q.1)) := by
  refine gx_intro_i (by decide) (Nat.le_of_ble_eq_true rfl) (fun J g hE0 => ?_)
  have hE : ∀ (v : Int32) (σ : OS) (pc : Nat) (L : List (Nat × Value)), some (v, σ) = some q → decode cX9_subordinates pc = .ok (.ireturn, 1) → narrow .int (.int v) = .int v → J 0 0 (mC ad t σ ++ rs) pc L [.int v] := fun v σ pc L h h1 h2 => by cases h; exact hE0 pc L h1 h2
  unfold fX9_subordinates at hf
  show J 0 0 (mC ad t σ ++ rs) 0 [(0, .ref (ad 0)), (1, .int p1)] []
  refine j_aload_n (pc := 0) g 0 dX9_subordinates_0 rfl ?_
  refine j_iload_n (pc := 1) g 1 dX9_subordinates_1 rfl ?_
  obtain ⟨r2, h_2, hf⟩ := gx_bs hf
  refine m9c_X9_isAsked (pc := 2) g ⟨Nat.le_of_ble_eq_true rfl, Nat.le_of_ble_eq_true rfl⟩ ⟨Nat.zero_le _, Nat.zero_le _⟩ (Nat.le_of_ble_eq_true rfl) h_2 dX9_subordinates_2 ?_
  refine j_if_eq (tgt := 16) (pc := 5) g dX9_subordinates_5 (by decide) (fun c_5 => ?_) (fun c_5 => ?_)
  · have hf := gx_it c_5 hf
    refine j_iconst (v := 0) (pc := 16) g dX9_subordinates_16 (by decide) ?_
    exact hE _ _ _ _ hf dX9_subordinates_17 rfl
  · have hf := gx_if c_5 hf
    refine j_aload_n (pc := 8) g 0 dX9_subordinates_8 rfl ?_
    refine j_iload_n (pc := 9) g 1 dX9_subordinates_9 rfl ?_
    obtain ⟨r10, h_10, hf⟩ := gx_bs hf
    refine m9c_X9_under (pc := 10) g ⟨Nat.le_of_ble_eq_true rfl, Nat.le_of_ble_eq_true rfl⟩ ⟨Nat.zero_le _, Nat.zero_le _⟩ (Nat.le_of_ble_eq_true rfl) h_10 dX9_subordinates_10 ?_
    refine j_goto (tgt := 17) (pc := 13) g dX9_subordinates_13 (by decide) ?_
    exact hE _ _ _ _ hf dX9_subordinates_17 rfl
theorem m9c_X9_deep {D : va_G} {t : Nat → ClassId} {E : gx_E} {l : Launch} {R : Room} {cc : ByteArray} {nL : Nat} {J : gx_J} {ad : Nat → Nat} {rs : va_W} {k n pc : Nat} {L : List (Nat × Value)} {rest : List Value} (g : gx_G D t E l R cc RX9 nL J) {σ : OS} {x0 : Int32} {q : Int32} (hR : 1 + 1 ≤ R.frames ∧ 8 + (4 + 11) + 22 ≤ R.locals) (hkn : k ≤ R.cells ∧ n ≤ R.slots) (hcat : (rest.map fun v => v.category).sum ≤ 8) (hf : fX9_deep σ x0 = some q) (hd : decode cc pc = .ok (.invokevirtual 146, 3)) (kk : J k n (mC ad t σ ++ rs) (pc + 3) L (.int q :: rest)) : J k n (mC ad t σ ++ rs) pc L (.int x0 :: .ref (ad 0) :: rest) := j_callVi (na := 1) (As := [.int x0]) (q0 := 0) (ci := 10) g (cX9_deep_  hf) q_i_X9_deep q_s_X9_deep rfl rfl rfl q_c_X9_deep q_l_X9_146 q_n_X9 (by decide +kernel) rfl hR hkn hcat (.refl _) (.refl _) hd kk rfl
set_option maxRecDepth 100000 in
set_option maxHeartbeats 4000000 in
theorem cX9_depth_ {D : va_G} {t : Nat → ClassId} {E : gx_E} {l : Launch} {ad : Nat → Nat} {rs : va_W} {σ : OS} {p1 : Int32} {q : (Int32 × OS)} (hf : fX9_depth σ p1 = some q) : gx_C D t E l yX9_depth cX9_depth 2 (some .int) 3 64 [.ref (ad 0), .int p1] (mC ad t σ ++ rs) (mC ad t q.2 ++ rs) (some (.int q.1)) := by
  refine gx_intro_i (by decide) (Nat.le_of_ble_eq_true rfl) (fun J g hE0 => ?_)
  have hE : ∀ (v : Int32) (σ : OS) (pc : Nat) (L : List (Nat × Value)), some (v, σ) = some q → decode cX9_depth pc = .ok (.ireturn, 1) → narrow .int (.int v) = .int v → J 0 0 (mC ad t σ ++ rs) pc L [.int v] := fun v σ pc L h h1 h2 => by cases h; exact hE0 pc L h1 h2
  unfold fX9_depth at hf
  show J 0 0 (mC ad t σ ++ rs) 0 [(0, .ref (ad 0)), (1, .int p1)] []
  refine j_aload_n (pc := 0) g 0 dX9_depth_0 rfl ?_
  refine j_iload_n (pc := 1) g 1 dX9_depth_1 rfl ?_
  obtain ⟨r2, h_2, hf⟩ := gx_bs hf
  refine m9c_X9_isAsked (pc := 2) g ⟨Nat.le_of_ble_eq_true rfl, Nat.le_of_ble_eq_true rfl⟩ ⟨Nat.zero_le _, Nat.zero_le _⟩ (Nat.le_of_ble_eq_true rfl) h_2 dX9_depth_2 ?_
  refine j_if_eq (tgt := 16) (pc := 5) g dX9_depth_5 (by decide) (fun c_5 => ?_) (fun c_5 => ?_)
  · have hf := gx_it c_5 hf
    refine j_iconst (v := 0) (pc := 16) g dX9_depth_16 (by decide) ?_
    exact hE _ _ _ _ hf dX9_depth_17 rfl
  · have hf := gx_if c_5 hf
    refine j_aload_n (pc := 8) g 0 dX9_depth_8 rfl ?_
    refine j_iload_n (pc := 9) g 1 dX9_depth_9 rfl ?_
    obtain ⟨r10, h_10, hf⟩ := gx_bs hf
    refine m9c_X9_deep (pc := 10) g ⟨Nat.le_of_ble_eq_true rfl, Nat.le_of_ble_eq_true rfl⟩ ⟨Nat.zero_le _, Nat.zero_le _⟩ (Nat.le_of_ble_eq_true rfl) h_10 dX9_depth_10 ?_
    refine j_goto (tgt := 17) (pc := 13) g dX9_depth_13 (by decide) ?_
    exact hE _ _ _ _ hf dX9_depth_17 rfl
theorem m9c_X9_depth {D : va_G} {t : Nat → ClassId} {E : gx_E} {l : Launch} {R : Room} {cc : ByteArray} {nL : Nat} {J : gx_J} {ad : Nat → Nat} {rs : va_W} {k n pc : Nat} {L : List (Nat × Value)} {rest : List Value} (g : gx_G D t E l R cc RX9 nL J) {σ : OS} {x0 : Int32} {q : (Int32 × OS)} (hR : 3 + 1 ≤ R.frames ∧ 8 + (2 + 11) + 64 ≤ R.locals) (hkn : k ≤ R.cells ∧ n ≤ R.slots) (hcat : (rest.map fun v => v.category).sum ≤ 8) (hf : fX9_depth σ x0 = some q) (hd : decode cc pc = .ok (.invokevirtual 149, 3)) (kk : J k n (mC ad t q.2 ++ rs) (pc + 3) L (.int q.1 :: rest)) : J k n (mC ad t σ ++ rs) pc L (.int x0 :: .ref (ad 0) :: rest) := j_callVi (na := 1) (As := [.int x0]) (q0 := 0) (ci := 10) g (cX9_depth_  hf) q_i_X9_depth q_s_X9_depth rfl rfl rfl q_c_X9_depth q_l_X9_149 q_n_X9 (by decide +kernel) rfl hR hkn hcat (.refl _) (.refl _) hd kk rfl
set_option maxRecDepth 100000 in
set_option maxHeartbeats 4000000 in
theorem cX9_depthFromTop_ {D : va_G} {t : Nat → ClassId} {E : gx_E} {l : Launch} {ad : Nat → Nat} {rs : va_W} {σ : OS} {p1 : Int32} {q : (Int32 × OS)} (hf : fX9_depthFromTop σ p1 = some q) : gx_C D t E l yX9_depthFromTop cX9_depthFromTop 2 (some .int) 4 85 [.ref (ad 0), .int p1] (mC ad t σ ++ rs) (mC ad t q.2 ++ rs) (some (.int q.1)) := by
  refine gx_intro_i (by decide) (Nat.le_of_ble_eq_true rfl) (fun J g hE0 => ?_)
  have hE : ∀ (v : Int32) (σ : OS) (pc : Nat) (L : List (Nat × Value)), some (v, σ) = some q → decode cX9_depthFromTop pc = .ok (.ireturn, 1) → narrow .int (.int v) = .int v → J 0 0 (mC ad t σ ++ rs) pc L [.int v] := fun v σ pc L h h1 h2 => by cases h; exact hE0 pc L h1 h2
  unfold fX9_depthFromTop at hf
  show J 0 0 (mC ad t σ ++ rs) 0 [(0, .ref (ad 0)), (1, .int p1)] []
  refine j_aload_n (pc := 0) g 0 dX9_depthFromTop_0 rfl ?_
  refine j_iload_n (pc := 1) g 1 dX9_depthFromTop_1 rfl ?_
  obtain ⟨r2, h_2, hf⟩ := gx_bs hf
  refine m9c_X9_depth (pc := 2) g ⟨Nat.le_of_ble_eq_true rfl, Nat.le_of_ble_eq_true rfl⟩ ⟨Nat.zero_le _, Nat.zero_le _⟩ (Nat.le_of_ble_eq_true rfl) h_2 dX9_depthFromTop_2 ?_
  exact hE _ _ _ _ hf dX9_depthFromTop_5 rfl

set_option maxRecDepth 100000 in
set_option maxHeartbeats 4000000 in
theorem cX9_commandSize_ {D : va_G} {t : Nat → ClassId} {E : gx_E} {l : Launch} {ad : Nat → Nat} {rs : va_W} {σ : OS} {p1 : Int32} {q : (Int32 × OS)} (hf : fX9_commandSize σ p1 = some q) : gx_C D t E l yX9_commandSize cX9_commandSize 2 (some .int) 3 68 [.ref (ad 0), .int p1] (mC ad t σ ++ rs) (mC ad t q.2 ++ rs) (some (.int q.1)) := by
  refine gx_intro_i (by decide) (Nat.le_of_ble_eq_true rfl) (fun J g hE0 => ?_)
  have hE : ∀ (v : Int32) (σ : OS) (pc : Nat) (L : List (Nat × Value)), some (v, σ) = some q → decode cX9_commandSize pc = .ok (.ireturn, 1) → narrow .int (.int v) = .int v → J 0 0 (mC ad t σ ++ rs) pc L [.int v] := fun v σ pc L h h1 h2 => by cases h; exact hE0 pc L h1 h2
  unfold fX9_commandSize at hf
  show J 0 0 (mC ad t σ ++ rs) 0 [(0, .ref (ad 0)), (1, .int p1)] []
  refine j_aload_n (pc := 0) g 0 dX9_commandSize_0 rfl ?_
  refine j_iload_n (pc := 1) g 1 dX9_commandSize_1 rfl ?_
  obtain ⟨r2, h_2, hf⟩ := gx_bs hf
  refine m9c_X9_isAsked (pc := 2) g ⟨Nat.le_of_ble_eq_true rfl, Nat.le_of_ble_eq_true rfl⟩ ⟨Nat.zero_le _, Nat.zero_le _⟩ (Nat.le_of_ble_eq_true rfl) h_2 dX9_commandSize_2 ?_
  refine j_if_eq (tgt := 16) (pc := 5) g dX9_commandSize_5 (by decide) (fun c_5 => ?_) (fun c_5 => ?_)
  · have hf := gx_it c_5 hf
    refine j_iconst (v := 0) (pc := 16) g dX9_commandSize_16 (by decide) ?_
    exact hE _ _ _ _ hf dX9_commandSize_17 rfl
  · have hf := gx_if c_5 hf
    refine j_aload_n (pc := 8) g 0 dX9_commandSize_8 rfl ?_
    refine j_iload_n (pc := 9) g 1 dX9_commandSize_9 rfl ?_
    obtain ⟨r10, h_10, hf⟩ := gx_bs hf
    refine m9c_X9_commanded (pc := 10) g ⟨Nat.le_of_ble_eq_true rfl, Nat.le_of_ble_eq_true rfl⟩ ⟨Nat.zero_le _, Nat.zero_le _⟩ (Nat.le_of_ble_eq_true rfl) h_10 dX9_commandSize_10 ?_
    refine j_goto (tgt := 17) (pc := 13) g dX9_commandSize_13 (by decide) ?_
    exact hE _ _ _ _ hf dX9_commandSize_17 rfl
theorem m9c_X9_commandSize {D : va_G} {t : Nat → ClassId} {E : gx_E} {l : Launch} {R : Room} {cc : ByteArray} {nL : Nat} {J : gx_J} {ad : Nat → Nat} {rs : va_W} {k n pc : Nat} {L : List (Nat × Value)} {rest : List Value} (g : gx_G D t E l R cc RX9 nL J) {σ : OS} {x0 : Int32} {q : (Int32 × OS)} (hR : 3 + 1 ≤ R.frames ∧ 8 + (2 + 11) + 68 ≤ R.locals) (hkn : k ≤ R.cells ∧ n ≤ R.slots) (hcat : (rest.map fun v => v.category).sum ≤ 8) (hf : fX9_commandSize σ x0 = some q) (hd : decode cc pc = .ok (.invokevirtual 152, 3)) (kk : J k n (mC ad t q.2 ++ rs) (pc + 3) L (.int q.1 :: rest)) : J k n (mC ad t σ ++ rs) pc L (.int x0 :: .ref (ad 0) :: rest) := j_callVi (na := 1) (As := [.int x0]) (q0 := 0) (ci := 10) g (cX9_commandSize_  hf) q_i_X9_commandSize q_s_X9_commandSize rfl rfl rfl q_c_X9_commandSize q_l_X9_152 q_n_X9 (by decide +kernel) rfl hR hkn hcat (.refl _) (.refl _) hd kk rfl
set_option maxRecDepth 100000 in
set_option maxHeartbeats 4000000 in
theorem cX9_commandSizeByCounting_ {D : va_G} {t : Nat → ClassId} {E : gx_E} {l : Launch} {ad : Nat → Nat} {rs : va_W} {σ : OS} {p1 : Int32} {q : (Int32 × OS)} (hf : fX9_commandSizeByCounting σ p1 = some q) : gx_C D t E l yX9_commandSizeByCounting cX9_commandSizeByCounting 2 (some .int) 4 89 [.ref (ad 0), .int p1] (mC ad t σ ++ rs) (mC ad t q.2 ++ rs) (some (.int q.1)) := by
  refine gx_intro_i (by decide) (Nat.le_of_ble_eq_true rfl) (fun J g hE0 => ?_)
  have hE : ∀ (v : Int32) (σ : OS) (pc : Nat) (L : List (Nat × Value)), some (v, σ) = some q → decode cX9_commandSizeByCounting pc = .ok (.ireturn, 1) → narrow .int (.int v) = .int v → J 0 0 (mC ad t σ ++ rs) pc L [.int v] := fun v σ pc L h h1 h2 => by cases h; exact hE0 pc L h1 h2
  unfold fX9_commandSizeByCounting at hf
  show J 0 0 (mC ad t σ ++ rs) 0 [(0, .ref (ad 0)), (1, .int p1)] []
  refine j_aload_n (pc := 0) g 0 dX9_commandSizeByCounting_0 rfl ?_
  refine j_iload_n (pc := 1) g 1 dX9_commandSizeByCounting_1 rfl ?_
  obtain ⟨r2, h_2, hf⟩ := gx_bs hf
  refine m9c_X9_commandSize (pc := 2) g ⟨Nat.le_of_ble_eq_true rfl, Nat.le_of_ble_eq_true rfl⟩ ⟨Nat.zero_le _, Nat.zero_le _⟩ (Nat.le_of_ble_eq_true rfl) h_2 dX9_commandSizeByCounting_2 ?_
  exact hE _ _ _ _ hf dX9_commandSizeByCounting_5 rfl

set_option maxRecDepth 100000 in
set_option maxHeartbeats 4000000 in
theorem cX9_isAbove_ {D : va_G} {t : Nat → ClassId} {E : gx_E} {l : Launch} {ad : Nat → Nat} {rs : va_W} {σ : OS} {p1 : Int32} {p2 : Int32} {q : (Int32 × OS)} (hf : fX9_isAbove σ p1 p2 = some q) : gx_C D t E l yX9_isAbove cX9_isAbove 3 (some .boolean) 2 45 [.ref (ad 0), .int p1, .int p2] (mC ad t σ ++ rs) (mC ad t q.2 ++ rs) (some (.int q.1)) := by
  refine gx_intro_i (by decide) (Nat.le_of_ble_eq_true rfl) (fun J g hE0 => ?_)
  have hE : ∀ (v : Int32) (σ : OS) (pc : Nat) (L : List (Nat × Value)), some (v, σ) = some q → decode cX9_isAbove pc = .ok (.ireturn, 1) → narrow .boolean (.int v) = .int v → J 0 0 (mC ad t σ ++ rs) pc L [.int v] := fun v σ pc L h h1 h2 => by cases h; exact hE0 pc L h1 h2
  unfold fX9_isAbove at hf
  show J 0 0 (mC ad t σ ++ rs) 0 [(0, .ref (ad 0)), (1, .int p1), (2, .int p2)] []
  refine j_aload_n (pc := 0) g 0 dX9_isAbove_0 rfl ?_
  refine j_aload_n (pc := 1) g 0 dX9_isAbove_1 rfl ?_
  refine j_iload_n (pc := 2) g 1 dX9_isAbove_2 rfl ?_
  obtain ⟨r3, h_3, hf⟩ := gx_bs hf
  refine m9c_X9_is (pc := 3) g ⟨Nat.le_of_ble_eq_true rfl, Nat.le_of_ble_eq_true rfl⟩ ⟨Nat.zero_le _, Nat.zero_le _⟩ (Nat.le_of_ble_eq_true rfl) h_3 dX9_isAbove_3 ?_
  refine j_if_eq (tgt := 21) (pc := 6) g dX9_isAbove_6 (by decide) (fun c_6 => ?_) (fun c_6 => ?_)
  · have hf := gx_it c_6 hf
    refine j_iconst (v := 1) (pc := 21) g dX9_isAbove_21 (by decide) ?_
    refine m9p_0 (pc := 22) g dX9_isAbove_22 ?_
    refine j_aload_n (pc := 25) g 0 dX9_isAbove_25 rfl ?_
    refine m9g_0 (pc := 26) g dX9_isAbove_26 ?_
    refine j_if_ne (tgt := 45) (pc := 29) g dX9_isAbove_29 (by decide) (fun c_29 => ?_) (fun c_29 => ?_)
    · have hf := gx_if c_29 hf
      refine j_iconst (v := 0) (pc := 45) g dX9_isAbove_45 (by decide) ?_
      exact hE _ _ _ _ hf dX9_isAbove_46 rfl
    · have hf := gx_it c_29 hf
      refine j_aload_n (pc := 32) g 0 dX9_isAbove_32 rfl ?_
      refine j_iload_n (pc := 33) g 1 dX9_isAbove_33 rfl ?_
      refine j_iload_n (pc := 34) g 2 dX9_isAbove_34 rfl ?_
      obtain ⟨r35, h_35, hf⟩ := gx_bs hf
      refine m9c_X9_above (pc := 35) g ⟨Nat.le_of_ble_eq_true rfl, Nat.le_of_ble_eq_true rfl⟩ ⟨Nat.zero_le _, Nat.zero_le _⟩ (Nat.le_of_ble_eq_true rfl) h_35 dX9_isAbove_35 ?_
      refine j_if_eq (tgt := 45) (pc := 38) g dX9_isAbove_38 (by decide) (fun c_38 => ?_) (fun c_38 => ?_)
      · have hf := gx_it c_38 hf
        refine j_iconst (v := 0) (pc := 45) g dX9_isAbove_45 (by decide) ?_
        exact hE _ _ _ _ hf dX9_isAbove_46 rfl
      · have hf := gx_if c_38 hf
        refine j_iconst (v := 1) (pc := 41) g dX9_isAbove_41 (by decide) ?_
        refine j_goto (tgt := 46) (pc := 42) g dX9_isAbove_42 (by decide) ?_
        exact hE _ _ _ _ hf dX9_isAbove_46 rfl
  · have hf := gx_if c_6 hf
    refine j_aload_n (pc := 9) g 0 dX9_isAbove_9 rfl ?_
    refine j_iload_n (pc := 10) g 2 dX9_isAbove_10 rfl ?_
    obtain ⟨r11, h_11, hf⟩ := gx_bs hf
    refine m9c_X9_is (pc := 11) g ⟨Nat.le_of_ble_eq_true rfl, Nat.le_of_ble_eq_true rfl⟩ ⟨Nat.zero_le _, Nat.zero_le _⟩ (Nat.le_of_ble_eq_true rfl) h_11 dX9_isAbove_11 ?_
    refine j_if_eq (tgt := 21) (pc := 14) g dX9_isAbove_14 (by decide) (fun c_14 => ?_) (fun c_14 => ?_)
    · have hf := gx_it c_14 hf
      refine j_iconst (v := 1) (pc := 21) g dX9_isAbove_21 (by decide) ?_
      refine m9p_0 (pc := 22) g dX9_isAbove_22 ?_
      refine j_aload_n (pc := 25) g 0 dX9_isAbove_25 rfl ?_
      refine m9g_0 (pc := 26) g dX9_isAbove_26 ?_
      refine j_if_ne (tgt := 45) (pc := 29) g dX9_isAbove_29 (by decide) (fun c_29 => ?_) (fun c_29 => ?_)
      · have hf := gx_if c_29 hf
        refine j_iconst (v := 0) (pc := 45) g dX9_isAbove_45 (by decide) ?_
        exact hE _ _ _ _ hf dX9_isAbove_46 rfl
      · have hf := gx_it c_29 hf
        refine j_aload_n (pc := 32) g 0 dX9_isAbove_32 rfl ?_
        refine j_iload_n (pc := 33) g 1 dX9_isAbove_33 rfl ?_
        refine j_iload_n (pc := 34) g 2 dX9_isAbove_34 rfl ?_
        obtain ⟨r35, h_35, hf⟩ := gx_bs hf
        refine m9c_X9_above (pc := 35) g ⟨Nat.le_of_ble_eq_true rfl, Nat.le_of_ble_eq_true rfl⟩ ⟨Nat.zero_le _, Nat.zero_le _⟩ (Nat.le_of_ble_eq_true rfl) h_35 dX9_isAbove_35 ?_
        refine j_if_eq (tgt := 45) (pc := 38) g dX9_isAbove_38 (by decide) (fun c_38 => ?_) (fun c_38 => ?_)
        · have hf := gx_it c_38 hf
          refine j_iconst (v := 0) (pc := 45) g dX9_isAbove_45 (by decide) ?_
          exact hE _ _ _ _ hf dX9_isAbove_46 rfl
        · have hf := gx_if c_38 hf
          refine j_iconst (v := 1) (pc := 41) g dX9_isAbove_41 (by decide) ?_
          refine j_goto (tgt := 46) (pc := 42) g dX9_isAbove_42 (by decide) ?_
          exact hE _ _ _ _ hf dX9_isAbove_46 rfl
    · have hf := gx_if c_14 hf
      refine j_iconst (v := 0) (pc := 17) g dX9_isAbove_17 (by decide) ?_
      refine j_goto (tgt := 22) (pc := 18) g dX9_isAbove_18 (by decide) ?_
      refine m9p_0 (pc := 22) g dX9_isAbove_22 ?_
      refine j_aload_n (pc := 25) g 0 dX9_isAbove_25 rfl ?_
      refine m9g_0 (pc := 26) g dX9_isAbove_26 ?_
      refine j_if_ne (tgt := 45) (pc := 29) g dX9_isAbove_29 (by decide) (fun c_29 => ?_) (fun c_29 => ?_)
      · have hf := gx_if c_29 hf
        refine j_iconst (v := 0) (pc := 45) g dX9_isAbove_45 (by decide) ?_
        exact hE _ _ _ _ hf dX9_isAbove_46 rfl
      · have hf := gx_it c_29 hf
        refine j_aload_n (pc := 32) g 0 dX9_isAbove_32 rfl ?_
        refine j_iload_n (pc := 33) g 1 dX9_isAbove_33 rfl ?_
        refine j_iload_n (pc := 34) g 2 dX9_isAbove_34 rfl ?_
        obtain ⟨r35, h_35, hf⟩ := gx_bs hf
        refine m9c_X9_above (pc := 35) g ⟨Nat.le_of_ble_eq_true rfl, Nat.le_of_ble_eq_true rfl⟩ ⟨Nat.zero_le _, Nat.zero_le _⟩ (Nat.le_of_ble_eq_true rfl) h_35 dX9_isAbove_35 ?_
        refine j_if_eq (tgt := 45) (pc := 38) g dX9_isAbove_38 (by decide) (fun c_38 => ?_) (fun c_38 => ?_)
        · have hf := gx_it c_38 hf
          refine j_iconst (v := 0) (pc := 45) g dX9_isAbove_45 (by decide) ?_
          exact hE _ _ _ _ hf dX9_isAbove_46 rfl
        · have hf := gx_if c_38 hf
          refine j_iconst (v := 1) (pc := 41) g dX9_isAbove_41 (by decide) ?_
          refine j_goto (tgt := 46) (pc := 42) g dX9_isAbove_42 (by decide) ?_
          exact hE _ _ _ _ hf dX9_isAbove_46 rfl

set_option maxRecDepth 100000 in
set_option maxHeartbeats 4000000 in
theorem tX9_commonSuperior_36 {D : va_G} {t : Nat → ClassId} {E : gx_E} {l : Launch} {J : gx_J} {ad : Nat → Nat} {rs : va_W} {q : (Int32 × OS)} (g : gx_G D t E l ({ frames := 2, cells := 0, slots := 0, locals := 45 }) cX9_commonSuperior RX9 4 J) (hE : ∀ (v : Int32) (σ : OS) (pc : Nat) (L : List (Nat × Value)), some (v, σ) = some q → decode cX9_commonSuperior pc = .ok (.ireturn, 1) → narrow .int (.int v) = .int v → J 0 0 (mC ad t σ ++ rs) pc L [.int v])  : ∀ (n : Nat) (σ : OS) (v2 : Int32) (v3 : Int32), fX9_commonSuperior_36 n σ v2 v3 = some q → J 0 0 (mC ad t σ ++ rs) 36 [(0, .ref (ad 0)), (2, .int v2), (3, .int v3)] [] := by
  intro n
  induction n with
  | zero => intro σ v2 v3 hf; cases hf
  | succ n ih =>
    intro σ v2 v3 hf
    replace hf := (fX9_commonSuperior_36_s n σ v2 v3).symm.trans hf
    refine j_iload_n (pc := 36) g 2 dX9_commonSuperior_36 rfl ?_
    refine j_iload_n (pc := 37) g 1 dX9_commonSuperior_37 rfl ?_
    refine j_icmp_eq (tgt := 60) (pc := 38) g dX9_commonSuperior_38 (by decide) (fun c_38 => ?_) (fun c_38 => ?_)
    · have hf := gx_it c_38 hf
      refine j_iload_n (pc := 60) g 2 dX9_commonSuperior_60 rfl ?_
      exact hE _ _ _ _ hf dX9_commonSuperior_61 rfl
    · have hf := gx_if c_38 hf
      refine j_aload_n (pc := 41) g 0 dX9_commonSuperior_41 rfl ?_
      refine j_iload_n (pc := 42) g 2 dX9_commonSuperior_42 rfl ?_
      refine j_iload_n (pc := 43) g 1 dX9_commonSuperior_43 rfl ?_
      obtain ⟨r44, h_44, hf⟩ := gx_bs hf
      refine m9c_X9_above (pc := 44) g ⟨Nat.le_of_ble_eq_true rfl, Nat.le_of_ble_eq_true rfl⟩ ⟨Nat.zero_le _, Nat.zero_le _⟩ (Nat.le_of_ble_eq_true rfl) h_44 dX9_commonSuperior_44 ?_
      refine j_if_ne (tgt := 60) (pc := 47) g dX9_commonSuperior_47 (by decide) (fun c_47 => ?_) (fun c_47 => ?_)
      · have hf := gx_if c_47 hf
        refine j_iload_n (pc := 60) g 2 dX9_commonSuperior_60 rfl ?_
        exact hE _ _ _ _ hf dX9_commonSuperior_61 rfl
      · have hf := gx_it c_47 hf
        refine j_aload_n (pc := 50) g 0 dX9_commonSuperior_50 rfl ?_
        refine j_iload_n (pc := 51) g 2 dX9_commonSuperior_51 rfl ?_
        refine j_iconst (v := 4) (pc := 52) g dX9_commonSuperior_52 (by decide) ?_
        obtain ⟨r53, h_53, hf⟩ := gx_bs hf
        refine m9c_X9_of (pc := 53) g ⟨Nat.le_of_ble_eq_true rfl, Nat.le_of_ble_eq_true rfl⟩ ⟨Nat.zero_le _, Nat.zero_le _⟩ (Nat.le_of_ble_eq_true rfl) h_53 dX9_commonSuperior_53 ?_
        refine j_istore_n (L' := [(3, .int r53), (0, .ref (ad 0)), (2, .int v2)]) (pc := 56) g dX9_commonSuperior_56 rfl (Nat.le_of_ble_eq_true rfl) rfl ?_
        refine j_goto (tgt := 36) (pc := 57) g dX9_commonSuperior_57 (by decide) ?_
        refine j_sub (pc := 36) g [1, 2, 0] rfl ?_
        exact ih σ v2 r53 hf
set_option maxRecDepth 100000 in
set_option maxHeartbeats 4000000 in
theorem cX9_commonSuperior_ {D : va_G} {t : Nat → ClassId} {E : gx_E} {l : Launch} {ad : Nat → Nat} {rs : va_W} {σ : OS} {p1 : Int32} {p2 : Int32} {q : (Int32 × OS)} (hf : fX9_commonSuperior σ p1 p2 = some q) : gx_C D t E l yX9_commonSuperior cX9_commonSuperior 4 (some .int) 2 45 [.ref (ad 0), .int p1, .int p2] (mC ad t σ ++ rs) (mC ad t q.2 ++ rs) (some (.int q.1)) := by
  refine gx_intro_i (by decide) (Nat.le_of_ble_eq_true rfl) (fun J g hE0 => ?_)
  have hE : ∀ (v : Int32) (σ : OS) (pc : Nat) (L : List (Nat × Value)), some (v, σ) = some q → decode cX9_commonSuperior pc = .ok (.ireturn, 1) → narrow .int (.int v) = .int v → J 0 0 (mC ad t σ ++ rs) pc L [.int v] := fun v σ pc L h h1 h2 => by cases h; exact hE0 pc L h1 h2
  unfold fX9_commonSuperior at hf
  show J 0 0 (mC ad t σ ++ rs) 0 [(0, .ref (ad 0)), (1, .int p1), (2, .int p2)] []
  refine j_aload_n (pc := 0) g 0 dX9_commonSuperior_0 rfl ?_
  refine j_aload_n (pc := 1) g 0 dX9_commonSuperior_1 rfl ?_
  refine j_iload_n (pc := 2) g 1 dX9_commonSuperior_2 rfl ?_
  obtain ⟨r3, h_3, hf⟩ := gx_bs hf
  refine m9c_X9_is (pc := 3) g ⟨Nat.le_of_ble_eq_true rfl, Nat.le_of_ble_eq_true rfl⟩ ⟨Nat.zero_le _, Nat.zero_le _⟩ (Nat.le_of_ble_eq_true rfl) h_3 dX9_commonSuperior_3 ?_
  refine j_if_eq (tgt := 21) (pc := 6) g dX9_commonSuperior_6 (by decide) (fun c_6 => ?_) (fun c_6 => ?_)
  · have hf := gx_it c_6 hf
    refine j_iconst (v := 1) (pc := 21) g dX9_commonSuperior_21 (by decide) ?_
    refine m9p_0 (pc := 22) g dX9_commonSuperior_22 ?_
    refine j_aload_n (pc := 25) g 0 dX9_commonSuperior_25 rfl ?_
    refine m9g_0 (pc := 26) g dX9_commonSuperior_26 ?_
    refine j_if_le (tgt := 34) (pc := 29) g dX9_commonSuperior_29 (by decide) (fun c_29 => ?_) (fun c_29 => ?_)
    · have hf := gx_it c_29 hf
      refine j_iload_n (pc := 34) g 1 dX9_commonSuperior_34 rfl ?_
      refine j_istore_n (L' := [(3, .int p1), (0, .ref (ad 0)), (1, .int p1), (2, .int p2)]) (pc := 35) g dX9_commonSuperior_35 rfl (Nat.le_of_ble_eq_true rfl) rfl ?_
      refine j_sub (pc := 36) g [1, 3, 0] rfl ?_
      exact tX9_commonSuperior_36 g hE 2000 (os_sf σ 0 (1 : Int32)) p2 p1 hf
    · have hf := gx_if c_29 hf
      refine j_iconst (v := 0) (pc := 32) g dX9_commonSuperior_32 (by decide) ?_
      exact hE _ _ _ _ hf dX9_commonSuperior_33 rfl
  · have hf := gx_if c_6 hf
    refine j_aload_n (pc := 9) g 0 dX9_commonSuperior_9 rfl ?_
    refine j_iload_n (pc := 10) g 2 dX9_commonSuperior_10 rfl ?_
    obtain ⟨r11, h_11, hf⟩ := gx_bs hf
    refine m9c_X9_is (pc := 11) g ⟨Nat.le_of_ble_eq_true rfl, Nat.le_of_ble_eq_true rfl⟩ ⟨Nat.zero_le _, Nat.zero_le _⟩ (Nat.le_of_ble_eq_true rfl) h_11 dX9_commonSuperior_11 ?_
    refine j_if_eq (tgt := 21) (pc := 14) g dX9_commonSuperior_14 (by decide) (fun c_14 => ?_) (fun c_14 => ?_)
    · have hf := gx_it c_14 hf
      refine j_iconst (v := 1) (pc := 21) g dX9_commonSuperior_21 (by decide) ?_
      refine m9p_0 (pc := 22) g dX9_commonSuperior_22 ?_
      refine j_aload_n (pc := 25) g 0 dX9_commonSuperior_25 rfl ?_
      refine m9g_0 (pc := 26) g dX9_commonSuperior_26 ?_
      refine j_if_le (tgt := 34) (pc := 29) g dX9_commonSuperior_29 (by decide) (fun c_29 => ?_) (fun c_29 => ?_)
      · have hf := gx_it c_29 hf
        refine j_iload_n (pc := 34) g 1 dX9_commonSuperior_34 rfl ?_
        refine j_istore_n (L' := [(3, .int p1), (0, .ref (ad 0)), (1, .int p1), (2, .int p2)]) (pc := 35) g dX9_commonSuperior_35 rfl (Nat.le_of_ble_eq_true rfl) rfl ?_
        refine j_sub (pc := 36) g [1, 3, 0] rfl ?_
        exact tX9_commonSuperior_36 g hE 2000 (os_sf σ 0 (1 : Int32)) p2 p1 hf
      · have hf := gx_if c_29 hf
        refine j_iconst (v := 0) (pc := 32) g dX9_commonSuperior_32 (by decide) ?_
        exact hE _ _ _ _ hf dX9_commonSuperior_33 rfl
    · have hf := gx_if c_14 hf
      refine j_iconst (v := 0) (pc := 17) g dX9_commonSuperior_17 (by decide) ?_
      refine j_goto (tgt := 22) (pc := 18) g dX9_commonSuperior_18 (by decide) ?_
      refine m9p_0 (pc := 22) g dX9_commonSuperior_22 ?_
      refine j_aload_n (pc := 25) g 0 dX9_commonSuperior_25 rfl ?_
      refine m9g_0 (pc := 26) g dX9_commonSuperior_26 ?_
      refine j_if_le (tgt := 34) (pc := 29) g dX9_commonSuperior_29 (by decide) (fun c_29 => ?_) (fun c_29 => ?_)
      · have hf := gx_it c_29 hf
        refine j_iload_n (pc := 34) g 1 dX9_commonSuperior_34 rfl ?_
        refine j_istore_n (L' := [(3, .int p1), (0, .ref (ad 0)), (1, .int p1), (2, .int p2)]) (pc := 35) g dX9_commonSuperior_35 rfl (Nat.le_of_ble_eq_true rfl) rfl ?_
        refine j_sub (pc := 36) g [1, 3, 0] rfl ?_
        exact tX9_commonSuperior_36 g hE 2000 (os_sf σ 0 (0 : Int32)) p2 p1 hf
      · have hf := gx_if c_29 hf
        refine j_iconst (v := 0) (pc := 32) g dX9_commonSuperior_32 (by decide) ?_
        exact hE _ _ _ _ hf dX9_commonSuperior_33 rfl

set_option maxRecDepth 100000 in
set_option maxHeartbeats 4000000 in
theorem tX9_greatestDepth_9 {D : va_G} {t : Nat → ClassId} {E : gx_E} {l : Launch} {J : gx_J} {ad : Nat → Nat} {rs : va_W} {q : (Int32 × OS)} (g : gx_G D t E l ({ frames := 2, cells := 0, slots := 0, locals := 45 }) cX9_greatestDepth RX9 3 J) (hE : ∀ (v : Int32) (σ : OS) (pc : Nat) (L : List (Nat × Value)), some (v, σ) = some q → decode cX9_greatestDepth pc = .ok (.ireturn, 1) → narrow .int (.int v) = .int v → J 0 0 (mC ad t σ ++ rs) pc L [.int v])  : ∀ (n : Nat) (σ : OS) (v1 : Int32) (v2 : Int32), fX9_greatestDepth_9 n σ v1 v2 = some q → J 0 0 (mC ad t σ ++ rs) 9 [(0, .ref (ad 0)), (1, .int v1), (2, .int v2)] [] := by
  intro n
  induction n with
  | zero => intro σ v1 v2 hf; cases hf
  | succ n ih =>
    intro σ v1 v2 hf
    replace hf := (fX9_greatestDepth_9_s n σ v1 v2).symm.trans hf
    refine j_iload_n (pc := 9) g 2 dX9_greatestDepth_9 rfl ?_
    refine j_aload_n (pc := 10) g 0 dX9_greatestDepth_10 rfl ?_
    refine m9g_1 (pc := 11) g dX9_greatestDepth_11 ?_
    refine j_iconst (v := 0) (pc := 14) g dX9_greatestDepth_14 (by decide) ?_
    obtain ⟨h_15, hf⟩ := gx_ck hf
    refine m9l_1 (pc := 15) g h_15 dX9_greatestDepth_15 ?_
    refine j_icmp_ge (tgt := 54) (pc := 16) g dX9_greatestDepth_16 (by decide) (fun c_16 => ?_) (fun c_16 => ?_)
    · have hf := gx_it c_16 hf
      refine j_iload_n (pc := 54) g 1 dX9_greatestDepth_54 rfl ?_
      exact hE _ _ _ _ hf dX9_greatestDepth_55 rfl
    · have hf := gx_if c_16 hf
      refine j_aload_n (pc := 19) g 0 dX9_greatestDepth_19 rfl ?_
      refine j_iload_n (pc := 20) g 2 dX9_greatestDepth_20 rfl ?_
      refine j_iconst (v := 0) (pc := 21) g dX9_greatestDepth_21 (by decide) ?_
      obtain ⟨r22, h_22, hf⟩ := gx_bs hf
      refine m9c_X9_of (pc := 22) g ⟨Nat.le_of_ble_eq_true rfl, Nat.le_of_ble_eq_true rfl⟩ ⟨Nat.zero_le _, Nat.zero_le _⟩ (Nat.le_of_ble_eq_true rfl) h_22 dX9_greatestDepth_22 ?_
      refine j_iconst (v := 1) (pc := 25) g dX9_greatestDepth_25 (by decide) ?_
      refine j_icmp_ne (tgt := 46) (pc := 26) g dX9_greatestDepth_26 (by decide) (fun c_26 => ?_) (fun c_26 => ?_)
      · have hf := gx_if c_26 hf
        refine j_iload_n (pc := 46) g 1 dX9_greatestDepth_46 rfl ?_
        refine j_istore_n (L' := [(1, .int v1), (0, .ref (ad 0)), (2, .int v2)]) (pc := 47) g dX9_greatestDepth_47 rfl (Nat.le_of_ble_eq_true rfl) rfl ?_
        refine j_iinc (v := v2 + 1) (L' := [(2, .int (v2 + 1)), (1, .int v1), (0, .ref (ad 0))]) (pc := 48) g 2 dX9_greatestDepth_48 rfl rfl (Nat.le_of_ble_eq_true rfl) rfl ?_
        refine j_goto (tgt := 9) (pc := 51) g dX9_greatestDepth_51 (by decide) ?_
        refine j_sub (pc := 9) g [2, 1, 0] rfl ?_
        exact ih σ v1 (v2 + 1) hf
      · have hf := gx_it c_26 hf
        refine j_aload_n (pc := 29) g 0 dX9_greatestDepth_29 rfl ?_
        refine j_iload_n (pc := 30) g 2 dX9_greatestDepth_30 rfl ?_
        obtain ⟨r31, h_31, hf⟩ := gx_bs hf
        refine m9c_X9_deep (pc := 31) g ⟨Nat.le_of_ble_eq_true rfl, Nat.le_of_ble_eq_true rfl⟩ ⟨Nat.zero_le _, Nat.zero_le _⟩ (Nat.le_of_ble_eq_true rfl) h_31 dX9_greatestDepth_31 ?_
        refine j_iload_n (pc := 34) g 1 dX9_greatestDepth_34 rfl ?_
        refine j_icmp_le (tgt := 46) (pc := 35) g dX9_greatestDepth_35 (by decide) (fun c_35 => ?_) (fun c_35 => ?_)
        · have hf := gx_it c_35 hf
          refine j_iload_n (pc := 46) g 1 dX9_greatestDepth_46 rfl ?_
          refine j_istore_n (L' := [(1, .int v1), (0, .ref (ad 0)), (2, .int v2)]) (pc := 47) g dX9_greatestDepth_47 rfl (Nat.le_of_ble_eq_true rfl) rfl ?_
          refine j_iinc (v := v2 + 1) (L' := [(2, .int (v2 + 1)), (1, .int v1), (0, .ref (ad 0))]) (pc := 48) g 2 dX9_greatestDepth_48 rfl rfl (Nat.le_of_ble_eq_true rfl) rfl ?_
          refine j_goto (tgt := 9) (pc := 51) g dX9_greatestDepth_51 (by decide) ?_
          refine j_sub (pc := 9) g [2, 1, 0] rfl ?_
          exact ih σ v1 (v2 + 1) hf
        · have hf := gx_if c_35 hf
          refine j_aload_n (pc := 38) g 0 dX9_greatestDepth_38 rfl ?_
          refine j_iload_n (pc := 39) g 2 dX9_greatestDepth_39 rfl ?_
          obtain ⟨r40, h_40, hf⟩ := gx_bs hf
          refine m9c_X9_deep (pc := 40) g ⟨Nat.le_of_ble_eq_true rfl, Nat.le_of_ble_eq_true rfl⟩ ⟨Nat.zero_le _, Nat.zero_le _⟩ (Nat.le_of_ble_eq_true rfl) h_40 dX9_greatestDepth_40 ?_
          refine j_goto (tgt := 47) (pc := 43) g dX9_greatestDepth_43 (by decide) ?_
          refine j_istore_n (L' := [(1, .int r40), (0, .ref (ad 0)), (2, .int v2)]) (pc := 47) g dX9_greatestDepth_47 rfl (Nat.le_of_ble_eq_true rfl) rfl ?_
          refine j_iinc (v := v2 + 1) (L' := [(2, .int (v2 + 1)), (1, .int r40), (0, .ref (ad 0))]) (pc := 48) g 2 dX9_greatestDepth_48 rfl rfl (Nat.le_of_ble_eq_true rfl) rfl ?_
          refine j_goto (tgt := 9) (pc := 51) g dX9_greatestDepth_51 (by decide) ?_
          refine j_sub (pc := 9) g [2, 1, 0] rfl ?_
          exact ih σ r40 (v2 + 1) hf
set_option maxRecDepth 100000 in
set_option maxHeartbeats 4000000 in
theorem cX9_greatestDepth_ {D : va_G} {t : Nat → ClassId} {E : gx_E} {l : Launch} {ad : Nat → Nat} {rs : va_W} {σ : OS} {q : (Int32 × OS)} (hf : fX9_greatestDepth σ = some q) : gx_C D t E l yX9_greatestDepth cX9_greatestDepth 3 (some .int) 2 45 [.ref (ad 0)] (mC ad t σ ++ rs) (mC ad t q.2 ++ rs) (some (.int q.1)) := by
  refine gx_intro_i (by decide) (Nat.le_of_ble_eq_true rfl) (fun J g hE0 => ?_)
  have hE : ∀ (v : Int32) (σ : OS) (pc : Nat) (L : List (Nat × Value)), some (v, σ) = some q → decode cX9_greatestDepth pc = .ok (.ireturn, 1) → narrow .int (.int v) = .int v → J 0 0 (mC ad t σ ++ rs) pc L [.int v] := fun v σ pc L h h1 h2 => by cases h; exact hE0 pc L h1 h2
  unfold fX9_greatestDepth at hf
  show J 0 0 (mC ad t σ ++ rs) 0 [(0, .ref (ad 0))] []
  refine j_aload_n (pc := 0) g 0 dX9_greatestDepth_0 rfl ?_
  refine j_iconst (v := 0) (pc := 1) g dX9_greatestDepth_1 (by decide) ?_
  refine m9p_0 (pc := 2) g dX9_greatestDepth_2 ?_
  refine j_iconst (v := 0) (pc := 5) g dX9_greatestDepth_5 (by decide) ?_
  refine j_istore_n (L' := [(1, .int (0 : Int32)), (0, .ref (ad 0))]) (pc := 6) g dX9_greatestDepth_6 rfl (Nat.le_of_ble_eq_true rfl) rfl ?_
  refine j_iconst (v := 0) (pc := 7) g dX9_greatestDepth_7 (by decide) ?_
  refine j_istore_n (L' := [(2, .int (0 : Int32)), (1, .int (0 : Int32)), (0, .ref (ad 0))]) (pc := 8) g dX9_greatestDepth_8 rfl (Nat.le_of_ble_eq_true rfl) rfl ?_
  refine j_sub (pc := 9) g [2, 1, 0] rfl ?_
  exact tX9_greatestDepth_9 g hE 2000 (os_sf σ 0 (0 : Int32)) (0 : Int32) (0 : Int32) hf

set_option maxRecDepth 100000 in
set_option maxHeartbeats 4000000 in
theorem cX9_isWay_ {D : va_G} {t : Nat → ClassId} {E : gx_E} {l : Launch} {ad : Nat → Nat} {rs : va_W} {σ : OS} {p1 : Int32} {p2 : Int32} {q : (Int32 × OS)} (hf : fX9_isWay σ p1 p2 = some q) : gx_C D t E l yX9_isWay cX9_isWay 3 (some .boolean) 2 45 [.ref (ad 0), .int p1, .int p2] (mC ad t σ ++ rs) (mC ad t q.2 ++ rs) (some (.int q.1)) := by
  refine gx_intro_i (by decide) (Nat.le_of_ble_eq_true rfl) (fun J g hE0 => ?_)
  have hE : ∀ (v : Int32) (σ : OS) (pc : Nat) (L : List (Nat × Value)), some (v, σ) = some q → decode cX9_isWay pc = .ok (.ireturn, 1) → narrow .boolean (.int v) = .int v → J 0 0 (mC ad t σ ++ rs) pc L [.int v] := fun v σ pc L h h1 h2 => by cases h; exact hE0 pc L h1 h2
  unfold fX9_isWay at hf
  show J 0 0 (mC ad t σ ++ rs) 0 [(0, .ref (ad 0)), (1, .int p1), (2, .int p2)] []
  refine j_aload_n (pc := 0) g 0 dX9_isWay_0 rfl ?_
  refine j_aload_n (pc := 1) g 0 dX9_isWay_1 rfl ?_
  refine j_iload_n (pc := 2) g 1 dX9_isWay_2 rfl ?_
  obtain ⟨r3, h_3, hf⟩ := gx_bs hf
  refine m9c_X9_is (pc := 3) g ⟨Nat.le_of_ble_eq_true rfl, Nat.le_of_ble_eq_true rfl⟩ ⟨Nat.zero_le _, Nat.zero_le _⟩ (Nat.le_of_ble_eq_true rfl) h_3 dX9_isWay_3 ?_
  refine j_if_eq (tgt := 17) (pc := 6) g dX9_isWay_6 (by decide) (fun c_6 => ?_) (fun c_6 => ?_)
  · have hf := gx_it c_6 hf
    refine j_iconst (v := 1) (pc := 17) g dX9_isWay_17 (by decide) ?_
    refine j_goto (tgt := 35) (pc := 18) g dX9_isWay_18 (by decide) ?_
    refine m9p_0 (pc := 35) g dX9_isWay_35 ?_
    refine j_aload_n (pc := 38) g 0 dX9_isWay_38 rfl ?_
    refine m9g_0 (pc := 39) g dX9_isWay_39 ?_
    refine j_if_ne (tgt := 49) (pc := 42) g dX9_isWay_42 (by decide) (fun c_42 => ?_) (fun c_42 => ?_)
    · have hf := gx_if c_42 hf
      refine j_iconst (v := 0) (pc := 49) g dX9_isWay_49 (by decide) ?_
      exact hE _ _ _ _ hf dX9_isWay_50 rfl
    · have hf := gx_it c_42 hf
      refine j_iconst (v := 1) (pc := 45) g dX9_isWay_45 (by decide) ?_
      refine j_goto (tgt := 50) (pc := 46) g dX9_isWay_46 (by decide) ?_
      exact hE _ _ _ _ hf dX9_isWay_50 rfl
  · have hf := gx_if c_6 hf
    refine j_aload_n (pc := 9) g 0 dX9_isWay_9 rfl ?_
    refine j_iload_n (pc := 10) g 2 dX9_isWay_10 rfl ?_
    obtain ⟨r11, h_11, hf⟩ := gx_bs hf
    refine m9c_X9_is (pc := 11) g ⟨Nat.le_of_ble_eq_true rfl, Nat.le_of_ble_eq_true rfl⟩ ⟨Nat.zero_le _, Nat.zero_le _⟩ (Nat.le_of_ble_eq_true rfl) h_11 dX9_isWay_11 ?_
    refine j_if_ne (tgt := 21) (pc := 14) g dX9_isWay_14 (by decide) (fun c_14 => ?_) (fun c_14 => ?_)
    · have hf := gx_if c_14 hf
      refine j_aload_n (pc := 21) g 0 dX9_isWay_21 rfl ?_
      refine j_iload_n (pc := 22) g 1 dX9_isWay_22 rfl ?_
      refine j_iload_n (pc := 23) g 2 dX9_isWay_23 rfl ?_
      obtain ⟨r24, h_24, hf⟩ := gx_bs hf
      refine m9c_X9_above (pc := 24) g ⟨Nat.le_of_ble_eq_true rfl, Nat.le_of_ble_eq_true rfl⟩ ⟨Nat.zero_le _, Nat.zero_le _⟩ (Nat.le_of_ble_eq_true rfl) h_24 dX9_isWay_24 ?_
      refine j_if_eq (tgt := 34) (pc := 27) g dX9_isWay_27 (by decide) (fun c_27 => ?_) (fun c_27 => ?_)
      · have hf := gx_it c_27 hf
        refine j_iconst (v := 2) (pc := 34) g dX9_isWay_34 (by decide) ?_
        refine m9p_0 (pc := 35) g dX9_isWay_35 ?_
        refine j_aload_n (pc := 38) g 0 dX9_isWay_38 rfl ?_
        refine m9g_0 (pc := 39) g dX9_isWay_39 ?_
        refine j_if_ne (tgt := 49) (pc := 42) g dX9_isWay_42 (by decide) (fun c_42 => ?_) (fun c_42 => ?_)
        · have hf := gx_if c_42 hf
          refine j_iconst (v := 0) (pc := 49) g dX9_isWay_49 (by decide) ?_
          exact hE _ _ _ _ hf dX9_isWay_50 rfl
        · have hf := gx_it c_42 hf
          refine j_iconst (v := 1) (pc := 45) g dX9_isWay_45 (by decide) ?_
          refine j_goto (tgt := 50) (pc := 46) g dX9_isWay_46 (by decide) ?_
          exact hE _ _ _ _ hf dX9_isWay_50 rfl
      · have hf := gx_if c_27 hf
        refine j_iconst (v := 0) (pc := 30) g dX9_isWay_30 (by decide) ?_
        refine j_goto (tgt := 35) (pc := 31) g dX9_isWay_31 (by decide) ?_
        refine m9p_0 (pc := 35) g dX9_isWay_35 ?_
        refine j_aload_n (pc := 38) g 0 dX9_isWay_38 rfl ?_
        refine m9g_0 (pc := 39) g dX9_isWay_39 ?_
        refine j_if_ne (tgt := 49) (pc := 42) g dX9_isWay_42 (by decide) (fun c_42 => ?_) (fun c_42 => ?_)
        · have hf := gx_if c_42 hf
          refine j_iconst (v := 0) (pc := 49) g dX9_isWay_49 (by decide) ?_
          exact hE _ _ _ _ hf dX9_isWay_50 rfl
        · have hf := gx_it c_42 hf
          refine j_iconst (v := 1) (pc := 45) g dX9_isWay_45 (by decide) ?_
          refine j_goto (tgt := 50) (pc := 46) g dX9_isWay_46 (by decide) ?_
          exact hE _ _ _ _ hf dX9_isWay_50 rfl
    · have hf := gx_it c_14 hf
      refine j_iconst (v := 1) (pc := 17) g dX9_isWay_17 (by decide) ?_
      refine j_goto (tgt := 35) (pc := 18) g dX9_isWay_18 (by decide) ?_
      refine m9p_0 (pc := 35) g dX9_isWay_35 ?_
      refine j_aload_n (pc := 38) g 0 dX9_isWay_38 rfl ?_
      refine m9g_0 (pc := 39) g dX9_isWay_39 ?_
      refine j_if_ne (tgt := 49) (pc := 42) g dX9_isWay_42 (by decide) (fun c_42 => ?_) (fun c_42 => ?_)
      · have hf := gx_if c_42 hf
        refine j_iconst (v := 0) (pc := 49) g dX9_isWay_49 (by decide) ?_
        exact hE _ _ _ _ hf dX9_isWay_50 rfl
      · have hf := gx_it c_42 hf
        refine j_iconst (v := 1) (pc := 45) g dX9_isWay_45 (by decide) ?_
        refine j_goto (tgt := 50) (pc := 46) g dX9_isWay_46 (by decide) ?_
        exact hE _ _ _ _ hf dX9_isWay_50 rfl
theorem m9c_X9_isWay {D : va_G} {t : Nat → ClassId} {E : gx_E} {l : Launch} {R : Room} {cc : ByteArray} {nL : Nat} {J : gx_J} {ad : Nat → Nat} {rs : va_W} {k n pc : Nat} {L : List (Nat × Value)} {rest : List Value} (g : gx_G D t E l R cc RX9 nL J) {σ : OS} {x0 : Int32} {x1 : Int32} {q : (Int32 × OS)} (hR : 2 + 1 ≤ R.frames ∧ 8 + (3 + 11) + 45 ≤ R.locals) (hkn : k ≤ R.cells ∧ n ≤ R.slots) (hcat : (rest.map fun v => v.category).sum ≤ 8) (hf : fX9_isWay σ x0 x1 = some q) (hd : decode cc pc = .ok (.invokevirtual 155, 3)) (kk : J k n (mC ad t q.2 ++ rs) (pc + 3) L (.int q.1 :: rest)) : J k n (mC ad t σ ++ rs) pc L (.int x1 :: .int x0 :: .ref (ad 0) :: rest) := j_callVi (na := 2) (As := [.int x0, .int x1]) (q0 := 0) (ci := 10) g (cX9_isWay_  hf) q_i_X9_isWay q_s_X9_isWay rfl rfl rfl q_c_X9_isWay q_l_X9_155 q_n_X9 (by decide +kernel) rfl hR hkn hcat (.refl _) (.refl _) hd kk rfl
set_option maxRecDepth 100000 in
set_option maxHeartbeats 4000000 in
theorem cX9_hoursFor_ {D : va_G} {t : Nat → ClassId} {E : gx_E} {l : Launch} {ad : Nat → Nat} {rs : va_W} {σ : OS} {p1 : Int32} {p2 : Int32} {q : (Int32 × OS)} (hf : fX9_hoursFor σ p1 p2 = some q) : gx_C D t E l yX9_hoursFor cX9_hoursFor 3 (some .int) 3 67 [.ref (ad 0), .int p1, .int p2] (mC ad t σ ++ rs) (mC ad t q.2 ++ rs) (some (.int q.1)) := by
  refine gx_intro_i (by decide) (Nat.le_of_ble_eq_true rfl) (fun J g hE0 => ?_)
  have hE : ∀ (v : Int32) (σ : OS) (pc : Nat) (L : List (Nat × Value)), some (v, σ) = some q → decode cX9_hoursFor pc = .ok (.ireturn, 1) → narrow .int (.int v) = .int v → J 0 0 (mC ad t σ ++ rs) pc L [.int v] := fun v σ pc L h h1 h2 => by cases h; exact hE0 pc L h1 h2
  unfold fX9_hoursFor at hf
  show J 0 0 (mC ad t σ ++ rs) 0 [(0, .ref (ad 0)), (1, .int p1), (2, .int p2)] []
  refine j_aload_n (pc := 0) g 0 dX9_hoursFor_0 rfl ?_
  refine j_iload_n (pc := 1) g 1 dX9_hoursFor_1 rfl ?_
  refine j_iload_n (pc := 2) g 2 dX9_hoursFor_2 rfl ?_
  obtain ⟨r3, h_3, hf⟩ := gx_bs hf
  refine m9c_X9_isWay (pc := 3) g ⟨Nat.le_of_ble_eq_true rfl, Nat.le_of_ble_eq_true rfl⟩ ⟨Nat.zero_le _, Nat.zero_le _⟩ (Nat.le_of_ble_eq_true rfl) h_3 dX9_hoursFor_3 ?_
  refine j_if_eq (tgt := 23) (pc := 6) g dX9_hoursFor_6 (by decide) (fun c_6 => ?_) (fun c_6 => ?_)
  · have hf := gx_it c_6 hf
    refine j_iconst (v := 0) (pc := 23) g dX9_hoursFor_23 (by decide) ?_
    exact hE _ _ _ _ hf dX9_hoursFor_24 rfl
  · have hf := gx_if c_6 hf
    refine j_aload_n (pc := 9) g 0 dX9_hoursFor_9 rfl ?_
    refine j_iload_n (pc := 10) g 2 dX9_hoursFor_10 rfl ?_
    obtain ⟨r11, h_11, hf⟩ := gx_bs hf
    refine m9c_X9_deep (pc := 11) g ⟨Nat.le_of_ble_eq_true rfl, Nat.le_of_ble_eq_true rfl⟩ ⟨Nat.zero_le _, Nat.zero_le _⟩ (Nat.le_of_ble_eq_true rfl) h_11 dX9_hoursFor_11 ?_
    refine j_aload_n (pc := 14) g 0 dX9_hoursFor_14 rfl ?_
    refine j_iload_n (pc := 15) g 1 dX9_hoursFor_15 rfl ?_
    obtain ⟨r16, h_16, hf⟩ := gx_bs hf
    refine m9c_X9_deep (pc := 16) g ⟨Nat.le_of_ble_eq_true rfl, Nat.le_of_ble_eq_true rfl⟩ ⟨Nat.zero_le _, Nat.zero_le _⟩ (Nat.le_of_ble_eq_true rfl) h_16 dX9_hoursFor_16 ?_
    refine j_isub (pc := 19) g dX9_hoursFor_19 ?_
    refine j_goto (tgt := 24) (pc := 20) g dX9_hoursFor_20 (by decide) ?_
    exact hE _ _ _ _ hf dX9_hoursFor_24 rfl

set_option maxRecDepth 100000 in
set_option maxHeartbeats 4000000 in
theorem tX9_greatestSeverity_17 {D : va_G} {t : Nat → ClassId} {E : gx_E} {l : Launch} {J : gx_J} {ad : Nat → Nat} {rs : va_W} {q : (Int32 × OS)} (g : gx_G D t E l ({ frames := 3, cells := 0, slots := 0, locals := 67 }) cX9_greatestSeverity RX9 5 J) (hE : ∀ (v : Int32) (σ : OS) (pc : Nat) (L : List (Nat × Value)), some (v, σ) = some q → decode cX9_greatestSeverity pc = .ok (.ireturn, 1) → narrow .int (.int v) = .int v → J 0 0 (mC ad t σ ++ rs) pc L [.int v])  : ∀ (n : Nat) (σ : OS) (v1 : Int32) (v3 : Int32) (v4 : Int32), fX9_greatestSeverity_17 n σ v1 v3 v4 = some q → J 0 0 (mC ad t σ ++ rs) 17 [(0, .ref (ad 0)), (1, .int v1), (3, .int v3), (4, .int v4)] [] := by
  intro n
  induction n with
  | zero => intro σ v1 v3 v4 hf; cases hf
  | succ n ih =>
    intro σ v1 v3 v4 hf
    replace hf := (fX9_greatestSeverity_17_s n σ v1 v3 v4).symm.trans hf
    refine j_iload (pc := 17) g 3 dX9_greatestSeverity_17 rfl ?_
    refine j_iload_n (pc := 19) g 1 dX9_greatestSeverity_19 rfl ?_
    refine j_icmp_eq (tgt := 58) (pc := 20) g dX9_greatestSeverity_20 (by decide) (fun c_20 => ?_) (fun c_20 => ?_)
    · have hf := gx_it c_20 hf
      refine j_iload_n (pc := 58) g 2 dX9_greatestSeverity_58 rfl ?_
      exact hE _ _ _ _ hf dX9_greatestSeverity_59 rfl
    · have hf := gx_if c_20 hf
      refine j_aload_n (pc := 23) g 0 dX9_greatestSeverity_23 rfl ?_
      refine j_iload (pc := 24) g 3 dX9_greatestSeverity_24 rfl ?_
      refine j_iconst (v := 2) (pc := 26) g dX9_greatestSeverity_26 (by decide) ?_
      obtain ⟨r27, h_27, hf⟩ := gx_bs hf
      refine m9c_X9_of (pc := 27) g ⟨Nat.le_of_ble_eq_true rfl, Nat.le_of_ble_eq_true rfl⟩ ⟨Nat.zero_le _, Nat.zero_le _⟩ (Nat.le_of_ble_eq_true rfl) h_27 dX9_greatestSeverity_27 ?_
      refine j_iload_n (pc := 30) g 2 dX9_greatestSeverity_30 rfl ?_
      refine j_icmp_ge (tgt := 44) (pc := 31) g dX9_greatestSeverity_31 (by decide) (fun c_31 => ?_) (fun c_31 => ?_)
      · have hf := gx_it c_31 hf
        refine j_iload_n (pc := 44) g 2 dX9_greatestSeverity_44 rfl ?_
        refine j_istore_n (L' := [(3, .int v3), (0, .ref (ad 0)), (1, .int v1), (4, .int v4)]) (pc := 45) g dX9_greatestSeverity_45 rfl (Nat.le_of_ble_eq_true rfl) rfl ?_
        refine j_aload_n (pc := 46) g 1 dX9_greatestSeverity_46 rfl ?_
        refine j_iload (pc := 47) g 3 dX9_greatestSeverity_47 rfl ?_
        refine j_iconst (v := 4) (pc := 49) g dX9_greatestSeverity_49 (by decide) ?_
        obtain ⟨r50, h_50, hf⟩ := gx_bs hf
        refine m9c_X9_of (pc := 50) g ⟨Nat.le_of_ble_eq_true rfl, Nat.le_of_ble_eq_true rfl⟩ ⟨Nat.zero_le _, Nat.zero_le _⟩ (Nat.le_of_ble_eq_true rfl) h_50 dX9_greatestSeverity_50 ?_
        refine j_istore (L' := [(4, .int r50), (3, .int v3), (0, .ref (ad 0)), (1, .int v1)]) (pc := 53) g dX9_greatestSeverity_53 (Nat.le_of_ble_eq_true rfl) rfl ?_
        refine j_goto (tgt := 17) (pc := 55) g dX9_greatestSeverity_55 (by decide) ?_
        refine j_sub (pc := 17) g [2, 3, 1, 0] rfl ?_
        exact ih σ v1 v3 r50 hf
      · have hf := gx_if c_31 hf
        refine j_aload_n (pc := 34) g 0 dX9_greatestSeverity_34 rfl ?_
        refine j_iload (pc := 35) g 3 dX9_greatestSeverity_35 rfl ?_
        refine j_iconst (v := 2) (pc := 37) g dX9_greatestSeverity_37 (by decide) ?_
        obtain ⟨r38, h_38, hf⟩ := gx_bs hf
        refine m9c_X9_of (pc := 38) g ⟨Nat.le_of_ble_eq_true rfl, Nat.le_of_ble_eq_true rfl⟩ ⟨Nat.zero_le _, Nat.zero_le _⟩ (Nat.le_of_ble_eq_true rfl) h_38 dX9_greatestSeverity_38 ?_
        refine j_goto (tgt := 45) (pc := 41) g dX9_greatestSeverity_41 (by decide) ?_
        refine j_istore_n (L' := [(3, .int r38), (0, .ref (ad 0)), (1, .int v1), (4, .int v4)]) (pc := 45) g dX9_greatestSeverity_45 rfl (Nat.le_of_ble_eq_true rfl) rfl ?_
        refine j_aload_n (pc := 46) g 1 dX9_greatestSeverity_46 rfl ?_
        refine j_iload (pc := 47) g 3 dX9_greatestSeverity_47 rfl ?_
        refine j_iconst (v := 4) (pc := 49) g dX9_greatestSeverity_49 (by decide) ?_
        obtain ⟨r50, h_50, hf⟩ := gx_bs hf
        refine m9c_X9_of (pc := 50) g ⟨Nat.le_of_ble_eq_true rfl, Nat.le_of_ble_eq_true rfl⟩ ⟨Nat.zero_le _, Nat.zero_le _⟩ (Nat.le_of_ble_eq_true rfl) h_50 dX9_greatestSeverity_50 ?_
        refine j_istore (L' := [(4, .int r50), (3, .int r38), (0, .ref (ad 0)), (1, .int v1)]) (pc := 53) g dX9_greatestSeverity_53 (Nat.le_of_ble_eq_true rfl) rfl ?_
        refine j_goto (tgt := 17) (pc := 55) g dX9_greatestSeverity_55 (by decide) ?_
        refine j_sub (pc := 17) g [2, 3, 1, 0] rfl ?_
        exact ih σ v1 r38 r50 hf
set_option maxRecDepth 100000 in
set_option maxHeartbeats 4000000 in
theorem cX9_greatestSeverity_ {D : va_G} {t : Nat → ClassId} {E : gx_E} {l : Launch} {ad : Nat → Nat} {rs : va_W} {σ : OS} {p1 : Int32} {p2 : Int32} {q : (Int32 × OS)} (hf : fX9_greatestSeverity σ p1 p2 = some q) : gx_C D t E l yX9_greatestSeverity cX9_greatestSeverity 5 (some .int) 3 67 [.ref (ad 0), .int p1, .int p2] (mC ad t σ ++ rs) (mC ad t q.2 ++ rs) (some (.int q.1)) := by
  refine gx_intro_i (by decide) (Nat.le_of_ble_eq_true rfl) (fun J g hE0 => ?_)
  have hE : ∀ (v : Int32) (σ : OS) (pc : Nat) (L : List (Nat × Value)), some (v, σ) = some q → decode cX9_greatestSeverity pc = .ok (.ireturn, 1) → narrow .int (.int v) = .int v → J 0 0 (mC ad t σ ++ rs) pc L [.int v] := fun v σ pc L h h1 h2 => by cases h; exact hE0 pc L h1 h2
  unfold fX9_greatestSeverity at hf
  show J 0 0 (mC ad t σ ++ rs) 0 [(0, .ref (ad 0)), (1, .int p1), (2, .int p2)] []
  refine j_aload_n (pc := 0) g 0 dX9_greatestSeverity_0 rfl ?_
  refine j_iload_n (pc := 1) g 1 dX9_greatestSeverity_1 rfl ?_
  refine j_iload_n (pc := 2) g 2 dX9_greatestSeverity_2 rfl ?_
  obtain ⟨r3, h_3, hf⟩ := gx_bs hf
  refine m9c_X9_isWay (pc := 3) g ⟨Nat.le_of_ble_eq_true rfl, Nat.le_of_ble_eq_true rfl⟩ ⟨Nat.zero_le _, Nat.zero_le _⟩ (Nat.le_of_ble_eq_true rfl) h_3 dX9_greatestSeverity_3 ?_
  refine j_if_ne (tgt := 11) (pc := 6) g dX9_greatestSeverity_6 (by decide) (fun c_6 => ?_) (fun c_6 => ?_)
  · have hf := gx_if c_6 hf
    refine j_bipush (v := 100) (pc := 11) g dX9_greatestSeverity_11 (by decide) ?_
    refine j_istore_n (L' := [(3, .int (100 : Int32)), (0, .ref (ad 0)), (1, .int p1), (2, .int p2)]) (pc := 13) g dX9_greatestSeverity_13 rfl (Nat.le_of_ble_eq_true rfl) rfl ?_
    refine j_iload_n (pc := 14) g 3 dX9_greatestSeverity_14 rfl ?_
    refine j_istore (L' := [(4, .int p2), (3, .int (100 : Int32)), (0, .ref (ad 0)), (1, .int p1), (2, .int p2)]) (pc := 15) g dX9_greatestSeverity_15 (Nat.le_of_ble_eq_true rfl) rfl ?_
    refine j_sub (pc := 17) g [2, 3, 1, 0] rfl ?_
    exact tX9_greatestSeverity_17 g hE 2000 r3.2 p1 (100 : Int32) p2 hf
  · have hf := gx_it c_6 hf
    refine j_iconst (v := 0) (pc := 9) g dX9_greatestSeverity_9 (by decide) ?_
    exact hE _ _ _ _ hf dX9_greatestSeverity_10 rfl
theorem m9c_X9_greatestSeverity {D : va_G} {t : Nat → ClassId} {E : gx_E} {l : Launch} {R : Room} {cc : ByteArray} {nL : Nat} {J : gx_J} {ad : Nat → Nat} {rs : va_W} {k n pc : Nat} {L : List (Nat × Value)} {rest : List Value} (g : gx_G D t E l R cc RX9 nL J) {σ : OS} {x0 : Int32} {x1 : Int32} {q : (Int32 × OS)} (hR : 3 + 1 ≤ R.frames ∧ 8 + (5 + 11) + 67 ≤ R.locals) (hkn : k ≤ R.cells ∧ n ≤ R.slots) (hcat : (rest.map fun v => v.category).sum ≤ 8) (hf : fX9_greatestSeverity σ x0 x1 = some q) (hd : decode cc pc = .ok (.invokevirtual 158, 3)) (kk : J k n (mC ad t q.2 ++ rs) (pc + 3) L (.int q.1 :: rest)) : J k n (mC ad t σ ++ rs) pc L (.int x1 :: .int x0 :: .ref (ad 0) :: rest) := j_callVi (na := 2) (As := [.int x0, .int x1]) (q0 := 0) (ci := 10) g (cX9_greatestSeverity_  hf) q_i_X9_greatestSeverity q_s_X9_greatestSeverity rfl rfl rfl q_c_X9_greatestSeverity q_l_X9_158 q_n_X9 (by decide +kernel) rfl hR hkn hcat (.refl _) (.refl _) hd kk rfl
set_option maxRecDepth 100000 in
set_option maxHeartbeats 4000000 in
theorem cX9_greatestSeverityByTrial_ {D : va_G} {t : Nat → ClassId} {E : gx_E} {l : Launch} {ad : Nat → Nat} {rs : va_W} {σ : OS} {p1 : Int32} {p2 : Int32} {q : (Int32 × OS)} (hf : fX9_greatestSeverityByTrial σ p1 p2 = some q) : gx_C D t E l yX9_greatestSeverityByTrial cX9_greatestSeverityByTrial 3 (some .int) 4 91 [.ref (ad 0), .int p1, .int p2] (mC ad t σ ++ rs) (mC ad t q.2 ++ rs) (some (.int q.1)) := by
  refine gx_intro_i (by decide) (Nat.le_of_ble_eq_true rfl) (fun J g hE0 => ?_)
  have hE : ∀ (v : Int32) (σ : OS) (pc : Nat) (L : List (Nat × Value)), some (v, σ) = some q → decode cX9_greatestSeverityByTrial pc = .ok (.ireturn, 1) → narrow .int (.int v) = .int v → J 0 0 (mC ad t σ ++ rs) pc L [.int v] := fun v σ pc L h h1 h2 => by cases h; exact hE0 pc L h1 h2
  unfold fX9_greatestSeverityByTrial at hf
  show J 0 0 (mC ad t σ ++ rs) 0 [(0, .ref (ad 0)), (1, .int p1), (2, .int p2)] []
  refine j_aload_n (pc := 0) g 0 dX9_greatestSeverityByTrial_0 rfl ?_
  refine j_iload_n (pc := 1) g 1 dX9_greatestSeverityByTrial_1 rfl ?_
  refine j_iload_n (pc := 2) g 2 dX9_greatestSeverityByTrial_2 rfl ?_
  obtain ⟨r3, h_3, hf⟩ := gx_bs hf
  refine m9c_X9_greatestSeverity (pc := 3) g ⟨Nat.le_of_ble_eq_true rfl, Nat.le_of_ble_eq_true rfl⟩ ⟨Nat.zero_le _, Nat.zero_le _⟩ (Nat.le_of_ble_eq_true rfl) h_3 dX9_greatestSeverityByTrial_3 ?_
  exact hE _ _ _ _ hf dX9_greatestSeverityByTrial_6 rfl

set_option maxRecDepth 100000 in
set_option maxHeartbeats 4000000 in
theorem tX9_firstRefusal_67 {D : va_G} {t : Nat → ClassId} {E : gx_E} {l : Launch} {J : gx_J} {ad : Nat → Nat} {rs : va_W} {q : (Int32 × OS)} (g : gx_G D t E l ({ frames := 2, cells := 0, slots := 0, locals := 45 }) cX9_firstRefusal RX9 6 J) (hE : ∀ (v : Int32) (σ : OS) (pc : Nat) (L : List (Nat × Value)), some (v, σ) = some q → decode cX9_firstRefusal pc = .ok (.ireturn, 1) → narrow .int (.int v) = .int v → J 0 0 (mC ad t σ ++ rs) pc L [.int v])  : ∀ (n : Nat) (σ : OS) (v1 : Int32) (v3 : Int32) (v4 : Int32) (v5 : Int32), fX9_firstRefusal_67 n σ v1 v3 v4 v5 = some q → J 0 0 (mC ad t σ ++ rs) 67 [(0, .ref (ad 0)), (1, .int v1), (3, .int v3), (4, .int v4), (5, .int v5)] [] := by
  intro n
  induction n with
  | zero => intro σ v1 v3 v4 v5 hf; cases hf
  | succ n ih =>
    intro σ v1 v3 v4 v5 hf
    replace hf := (fX9_firstRefusal_67_s n σ v1 v3 v4 v5).symm.trans hf
    refine j_iload (pc := 67) g 4 dX9_firstRefusal_67 rfl ?_
    refine j_iload_n (pc := 69) g 1 dX9_firstRefusal_69 rfl ?_
    refine j_icmp_eq (tgt := 105) (pc := 70) g dX9_firstRefusal_70 (by decide) (fun c_70 => ?_) (fun c_70 => ?_)
    · have hf := gx_it c_70 hf
      refine j_iload (pc := 105) g 3 dX9_firstRefusal_105 rfl ?_
      refine j_iconst (v := -1) (pc := 107) g dX9_firstRefusal_107 (by decide) ?_
      refine j_icmp_ne (tgt := 119) (pc := 108) g dX9_firstRefusal_108 (by decide) (fun c_108 => ?_) (fun c_108 => ?_)
      · have hf := gx_if c_108 hf
        refine j_iload (pc := 119) g 3 dX9_firstRefusal_119 rfl ?_
        exact hE _ _ _ _ hf dX9_firstRefusal_121 rfl
      · have hf := gx_it c_108 hf
        refine j_aload_n (pc := 111) g 0 dX9_firstRefusal_111 rfl ?_
        refine j_iconst (v := 4) (pc := 112) g dX9_firstRefusal_112 (by decide) ?_
        obtain ⟨r113, h_113, hf⟩ := gx_bs hf
        refine m9c_X9_fails (pc := 113) g ⟨Nat.le_of_ble_eq_true rfl, Nat.le_of_ble_eq_true rfl⟩ ⟨Nat.zero_le _, Nat.zero_le _⟩ (Nat.le_of_ble_eq_true rfl) h_113 dX9_firstRefusal_113 ?_
        refine j_goto (tgt := 121) (pc := 116) g dX9_firstRefusal_116 (by decide) ?_
        exact hE _ _ _ _ hf dX9_firstRefusal_121 rfl
    · have hf := gx_if c_70 hf
      refine j_aload_n (pc := 73) g 0 dX9_firstRefusal_73 rfl ?_
      refine j_iload (pc := 74) g 4 dX9_firstRefusal_74 rfl ?_
      refine j_iconst (v := 2) (pc := 76) g dX9_firstRefusal_76 (by decide) ?_
      obtain ⟨r77, h_77, hf⟩ := gx_bs hf
      refine m9c_X9_of (pc := 77) g ⟨Nat.le_of_ble_eq_true rfl, Nat.le_of_ble_eq_true rfl⟩ ⟨Nat.zero_le _, Nat.zero_le _⟩ (Nat.le_of_ble_eq_true rfl) h_77 dX9_firstRefusal_77 ?_
      refine j_iload_n (pc := 80) g 2 dX9_firstRefusal_80 rfl ?_
      refine j_icmp_ge (tgt := 89) (pc := 81) g dX9_firstRefusal_81 (by decide) (fun c_81 => ?_) (fun c_81 => ?_)
      · have hf := gx_it c_81 hf
        refine j_iload (pc := 89) g 3 dX9_firstRefusal_89 rfl ?_
        refine j_istore (L' := [(4, .int v4), (0, .ref (ad 0)), (1, .int v1), (3, .int v3), (5, .int v5)]) (pc := 91) g dX9_firstRefusal_91 (Nat.le_of_ble_eq_true rfl) rfl ?_
        refine j_aload_n (pc := 93) g 1 dX9_firstRefusal_93 rfl ?_
        refine j_iload (pc := 94) g 4 dX9_firstRefusal_94 rfl ?_
        refine j_iconst (v := 4) (pc := 96) g dX9_firstRefusal_96 (by decide) ?_
        obtain ⟨r97, h_97, hf⟩ := gx_bs hf
        refine m9c_X9_of (pc := 97) g ⟨Nat.le_of_ble_eq_true rfl, Nat.le_of_ble_eq_true rfl⟩ ⟨Nat.zero_le _, Nat.zero_le _⟩ (Nat.le_of_ble_eq_true rfl) h_97 dX9_firstRefusal_97 ?_
        refine j_istore (L' := [(5, .int r97), (4, .int v4), (0, .ref (ad 0)), (1, .int v1), (3, .int v3)]) (pc := 100) g dX9_firstRefusal_100 (Nat.le_of_ble_eq_true rfl) rfl ?_
        refine j_goto (tgt := 67) (pc := 102) g dX9_firstRefusal_102 (by decide) ?_
        refine j_sub (pc := 67) g [2, 3, 4, 1, 0] rfl ?_
        exact ih σ v1 v3 v4 r97 hf
      · have hf := gx_if c_81 hf
        refine j_iload (pc := 84) g 4 dX9_firstRefusal_84 rfl ?_
        refine j_goto (tgt := 91) (pc := 86) g dX9_firstRefusal_86 (by decide) ?_
        refine j_istore (L' := [(4, .int v5), (0, .ref (ad 0)), (1, .int v1), (3, .int v3), (5, .int v5)]) (pc := 91) g dX9_firstRefusal_91 (Nat.le_of_ble_eq_true rfl) rfl ?_
        refine j_aload_n (pc := 93) g 1 dX9_firstRefusal_93 rfl ?_
        refine j_iload (pc := 94) g 4 dX9_firstRefusal_94 rfl ?_
        refine j_iconst (v := 4) (pc := 96) g dX9_firstRefusal_96 (by decide) ?_
        obtain ⟨r97, h_97, hf⟩ := gx_bs hf
        refine m9c_X9_of (pc := 97) g ⟨Nat.le_of_ble_eq_true rfl, Nat.le_of_ble_eq_true rfl⟩ ⟨Nat.zero_le _, Nat.zero_le _⟩ (Nat.le_of_ble_eq_true rfl) h_97 dX9_firstRefusal_97 ?_
        refine j_istore (L' := [(5, .int r97), (4, .int v5), (0, .ref (ad 0)), (1, .int v1), (3, .int v3)]) (pc := 100) g dX9_firstRefusal_100 (Nat.le_of_ble_eq_true rfl) rfl ?_
        refine j_goto (tgt := 67) (pc := 102) g dX9_firstRefusal_102 (by decide) ?_
        refine j_sub (pc := 67) g [2, 3, 4, 1, 0] rfl ?_
        exact ih σ v1 v3 v5 r97 hf
set_option maxRecDepth 100000 in
set_option maxHeartbeats 4000000 in
theorem cX9_firstRefusal_ {D : va_G} {t : Nat → ClassId} {E : gx_E} {l : Launch} {ad : Nat → Nat} {rs : va_W} {σ : OS} {p1 : Int32} {p2 : Int32} {p3 : Int32} {q : (Int32 × OS)} (hf : fX9_firstRefusal σ p1 p2 p3 = some q) : gx_C D t E l yX9_firstRefusal cX9_firstRefusal 6 (some .int) 2 45 [.ref (ad 0), .int p1, .int p2, .int p3] (mC ad t σ ++ rs) (mC ad t q.2 ++ rs) (some (.int q.1)) := by
  refine gx_intro_i (by decide) (Nat.le_of_ble_eq_true rfl) (fun J g hE0 => ?_)
  have hE : ∀ (v : Int32) (σ : OS) (pc : Nat) (L : List (Nat × Value)), some (v, σ) = some q → decode cX9_firstRefusal pc = .ok (.ireturn, 1) → narrow .int (.int v) = .int v → J 0 0 (mC ad t σ ++ rs) pc L [.int v] := fun v σ pc L h h1 h2 => by cases h; exact hE0 pc L h1 h2
  unfold fX9_firstRefusal at hf
  show J 0 0 (mC ad t σ ++ rs) 0 [(0, .ref (ad 0)), (1, .int p1), (2, .int p2), (3, .int p3)] []
  refine j_aload_n (pc := 0) g 0 dX9_firstRefusal_0 rfl ?_
  refine j_aload_n (pc := 1) g 0 dX9_firstRefusal_1 rfl ?_
  refine j_iload_n (pc := 2) g 1 dX9_firstRefusal_2 rfl ?_
  obtain ⟨r3, h_3, hf⟩ := gx_bs hf
  refine m9c_X9_is (pc := 3) g ⟨Nat.le_of_ble_eq_true rfl, Nat.le_of_ble_eq_true rfl⟩ ⟨Nat.zero_le _, Nat.zero_le _⟩ (Nat.le_of_ble_eq_true rfl) h_3 dX9_firstRefusal_3 ?_
  refine j_if_eq (tgt := 17) (pc := 6) g dX9_firstRefusal_6 (by decide) (fun c_6 => ?_) (fun c_6 => ?_)
  · have hf := gx_it c_6 hf
    refine j_iconst (v := 1) (pc := 17) g dX9_firstRefusal_17 (by decide) ?_
    refine j_goto (tgt := 49) (pc := 18) g dX9_firstRefusal_18 (by decide) ?_
    refine m9p_0 (pc := 49) g dX9_firstRefusal_49 ?_
    refine j_aload_n (pc := 52) g 0 dX9_firstRefusal_52 rfl ?_
    refine m9g_0 (pc := 53) g dX9_firstRefusal_53 ?_
    refine j_if_le (tgt := 61) (pc := 56) g dX9_firstRefusal_56 (by decide) (fun c_56 => ?_) (fun c_56 => ?_)
    · have hf := gx_it c_56 hf
      refine j_iconst (v := -1) (pc := 61) g dX9_firstRefusal_61 (by decide) ?_
      refine j_istore (L' := [(4, .int (-1 : Int32)), (0, .ref (ad 0)), (1, .int p1), (2, .int p2), (3, .int p3)]) (pc := 62) g dX9_firstRefusal_62 (Nat.le_of_ble_eq_true rfl) rfl ?_
      refine j_iload_n (pc := 64) g 3 dX9_firstRefusal_64 rfl ?_
      refine j_istore (L' := [(5, .int p2), (4, .int (-1 : Int32)), (0, .ref (ad 0)), (1, .int p1), (2, .int p2), (3, .int p3)]) (pc := 65) g dX9_firstRefusal_65 (Nat.le_of_ble_eq_true rfl) rfl ?_
      refine j_sub (pc := 67) g [2, 3, 5, 1, 0] rfl ?_
      exact tX9_firstRefusal_67 g hE 2000 (os_sf σ 0 (1 : Int32)) p1 p3 (-1 : Int32) p2 hf
    · have hf := gx_if c_56 hf
      refine j_iconst (v := 0) (pc := 59) g dX9_firstRefusal_59 (by decide) ?_
      exact hE _ _ _ _ hf dX9_firstRefusal_60 rfl
  · have hf := gx_if c_6 hf
    refine j_aload_n (pc := 9) g 0 dX9_firstRefusal_9 rfl ?_
    refine j_iload_n (pc := 10) g 2 dX9_firstRefusal_10 rfl ?_
    obtain ⟨r11, h_11, hf⟩ := gx_bs hf
    refine m9c_X9_is (pc := 11) g ⟨Nat.le_of_ble_eq_true rfl, Nat.le_of_ble_eq_true rfl⟩ ⟨Nat.zero_le _, Nat.zero_le _⟩ (Nat.le_of_ble_eq_true rfl) h_11 dX9_firstRefusal_11 ?_
    refine j_if_ne (tgt := 21) (pc := 14) g dX9_firstRefusal_14 (by decide) (fun c_14 => ?_) (fun c_14 => ?_)
    · have hf := gx_if c_14 hf
      refine j_iload_n (pc := 21) g 3 dX9_firstRefusal_21 rfl ?_
      refine j_iconst (v := 0) (pc := 22) g dX9_firstRefusal_22 (by decide) ?_
      refine j_bipush (v := 100) (pc := 23) g dX9_firstRefusal_23 (by decide) ?_
      obtain ⟨r25, h_25, hf⟩ := gx_bs hf
      refine m9c_X9_in (pc := 25) g ⟨Nat.le_of_ble_eq_true rfl, Nat.le_of_ble_eq_true rfl⟩ ⟨Nat.zero_le _, Nat.zero_le _⟩ (Nat.le_of_ble_eq_true rfl) h_25 dX9_firstRefusal_25 ?_
      refine j_if_ne (tgt := 35) (pc := 28) g dX9_firstRefusal_28 (by decide) (fun c_28 => ?_) (fun c_28 => ?_)
      · have hf := gx_if c_28 hf
        refine j_aload_n (pc := 35) g 0 dX9_firstRefusal_35 rfl ?_
        refine j_iload_n (pc := 36) g 1 dX9_firstRefusal_36 rfl ?_
        refine j_iload_n (pc := 37) g 2 dX9_firstRefusal_37 rfl ?_
        obtain ⟨r38, h_38, hf⟩ := gx_bs hf
        refine m9c_X9_above (pc := 38) g ⟨Nat.le_of_ble_eq_true rfl, Nat.le_of_ble_eq_true rfl⟩ ⟨Nat.zero_le _, Nat.zero_le _⟩ (Nat.le_of_ble_eq_true rfl) h_38 dX9_firstRefusal_38 ?_
        refine j_if_eq (tgt := 48) (pc := 41) g dX9_firstRefusal_41 (by decide) (fun c_41 => ?_) (fun c_41 => ?_)
        · have hf := gx_it c_41 hf
          refine j_iconst (v := 3) (pc := 48) g dX9_firstRefusal_48 (by decide) ?_
          refine m9p_0 (pc := 49) g dX9_firstRefusal_49 ?_
          refine j_aload_n (pc := 52) g 0 dX9_firstRefusal_52 rfl ?_
          refine m9g_0 (pc := 53) g dX9_firstRefusal_53 ?_
          refine j_if_le (tgt := 61) (pc := 56) g dX9_firstRefusal_56 (by decide) (fun c_56 => ?_) (fun c_56 => ?_)
          · have hf := gx_it c_56 hf
            refine j_iconst (v := -1) (pc := 61) g dX9_firstRefusal_61 (by decide) ?_
            refine j_istore (L' := [(4, .int (-1 : Int32)), (0, .ref (ad 0)), (1, .int p1), (2, .int p2), (3, .int p3)]) (pc := 62) g dX9_firstRefusal_62 (Nat.le_of_ble_eq_true rfl) rfl ?_
            refine j_iload_n (pc := 64) g 3 dX9_firstRefusal_64 rfl ?_
            refine j_istore (L' := [(5, .int p2), (4, .int (-1 : Int32)), (0, .ref (ad 0)), (1, .int p1), (2, .int p2), (3, .int p3)]) (pc := 65) g dX9_firstRefusal_65 (Nat.le_of_ble_eq_true rfl) rfl ?_
            refine j_sub (pc := 67) g [2, 3, 5, 1, 0] rfl ?_
            exact tX9_firstRefusal_67 g hE 2000 (os_sf σ 0 (3 : Int32)) p1 p3 (-1 : Int32) p2 hf
          · have hf := gx_if c_56 hf
            refine j_iconst (v := 0) (pc := 59) g dX9_firstRefusal_59 (by decide) ?_
            exact hE _ _ _ _ hf dX9_firstRefusal_60 rfl
        · have hf := gx_if c_41 hf
          refine j_iconst (v := 0) (pc := 44) g dX9_firstRefusal_44 (by decide) ?_
          refine j_goto (tgt := 49) (pc := 45) g dX9_firstRefusal_45 (by decide) ?_
          refine m9p_0 (pc := 49) g dX9_firstRefusal_49 ?_
          refine j_aload_n (pc := 52) g 0 dX9_firstRefusal_52 rfl ?_
          refine m9g_0 (pc := 53) g dX9_firstRefusal_53 ?_
          refine j_if_le (tgt := 61) (pc := 56) g dX9_firstRefusal_56 (by decide) (fun c_56 => ?_) (fun c_56 => ?_)
          · have hf := gx_it c_56 hf
            refine j_iconst (v := -1) (pc := 61) g dX9_firstRefusal_61 (by decide) ?_
            refine j_istore (L' := [(4, .int (-1 : Int32)), (0, .ref (ad 0)), (1, .int p1), (2, .int p2), (3, .int p3)]) (pc := 62) g dX9_firstRefusal_62 (Nat.le_of_ble_eq_true rfl) rfl ?_
            refine j_iload_n (pc := 64) g 3 dX9_firstRefusal_64 rfl ?_
            refine j_istore (L' := [(5, .int p2), (4, .int (-1 : Int32)), (0, .ref (ad 0)), (1, .int p1), (2, .int p2), (3, .int p3)]) (pc := 65) g dX9_firstRefusal_65 (Nat.le_of_ble_eq_true rfl) rfl ?_
            refine j_sub (pc := 67) g [2, 3, 5, 1, 0] rfl ?_
            exact tX9_firstRefusal_67 g hE 2000 (os_sf σ 0 (0 : Int32)) p1 p3 (-1 : Int32) p2 hf
          · have hf := gx_if c_56 hf
            refine j_iconst (v := 0) (pc := 59) g dX9_firstRefusal_59 (by decide) ?_
            exact hE _ _ _ _ hf dX9_firstRefusal_60 rfl
      · have hf := gx_it c_28 hf
        refine j_iconst (v := 2) (pc := 31) g dX9_firstRefusal_31 (by decide) ?_
        refine j_goto (tgt := 49) (pc := 32) g dX9_firstRefusal_32 (by decide) ?_
        refine m9p_0 (pc := 49) g dX9_firstRefusal_49 ?_
        refine j_aload_n (pc := 52) g 0 dX9_firstRefusal_52 rfl ?_
        refine m9g_0 (pc := 53) g dX9_firstRefusal_53 ?_
        refine j_if_le (tgt := 61) (pc := 56) g dX9_firstRefusal_56 (by decide) (fun c_56 => ?_) (fun c_56 => ?_)
        · have hf := gx_it c_56 hf
          refine j_iconst (v := -1) (pc := 61) g dX9_firstRefusal_61 (by decide) ?_
          refine j_istore (L' := [(4, .int (-1 : Int32)), (0, .ref (ad 0)), (1, .int p1), (2, .int p2), (3, .int p3)]) (pc := 62) g dX9_firstRefusal_62 (Nat.le_of_ble_eq_true rfl) rfl ?_
          refine j_iload_n (pc := 64) g 3 dX9_firstRefusal_64 rfl ?_
          refine j_istore (L' := [(5, .int p2), (4, .int (-1 : Int32)), (0, .ref (ad 0)), (1, .int p1), (2, .int p2), (3, .int p3)]) (pc := 65) g dX9_firstRefusal_65 (Nat.le_of_ble_eq_true rfl) rfl ?_
          refine j_sub (pc := 67) g [2, 3, 5, 1, 0] rfl ?_
          exact tX9_firstRefusal_67 g hE 2000 (os_sf σ 0 (2 : Int32)) p1 p3 (-1 : Int32) p2 hf
        · have hf := gx_if c_56 hf
          refine j_iconst (v := 0) (pc := 59) g dX9_firstRefusal_59 (by decide) ?_
          exact hE _ _ _ _ hf dX9_firstRefusal_60 rfl
    · have hf := gx_it c_14 hf
      refine j_iconst (v := 1) (pc := 17) g dX9_firstRefusal_17 (by decide) ?_
      refine j_goto (tgt := 49) (pc := 18) g dX9_firstRefusal_18 (by decide) ?_
      refine m9p_0 (pc := 49) g dX9_firstRefusal_49 ?_
      refine j_aload_n (pc := 52) g 0 dX9_firstRefusal_52 rfl ?_
      refine m9g_0 (pc := 53) g dX9_firstRefusal_53 ?_
      refine j_if_le (tgt := 61) (pc := 56) g dX9_firstRefusal_56 (by decide) (fun c_56 => ?_) (fun c_56 => ?_)
      · have hf := gx_it c_56 hf
        refine j_iconst (v := -1) (pc := 61) g dX9_firstRefusal_61 (by decide) ?_
        refine j_istore (L' := [(4, .int (-1 : Int32)), (0, .ref (ad 0)), (1, .int p1), (2, .int p2), (3, .int p3)]) (pc := 62) g dX9_firstRefusal_62 (Nat.le_of_ble_eq_true rfl) rfl ?_
        refine j_iload_n (pc := 64) g 3 dX9_firstRefusal_64 rfl ?_
        refine j_istore (L' := [(5, .int p2), (4, .int (-1 : Int32)), (0, .ref (ad 0)), (1, .int p1), (2, .int p2), (3, .int p3)]) (pc := 65) g dX9_firstRefusal_65 (Nat.le_of_ble_eq_true rfl) rfl ?_
        refine j_sub (pc := 67) g [2, 3, 5, 1, 0] rfl ?_
        exact tX9_firstRefusal_67 g hE 2000 (os_sf σ 0 (1 : Int32)) p1 p3 (-1 : Int32) p2 hf
      · have hf := gx_if c_56 hf
        refine j_iconst (v := 0) (pc := 59) g dX9_firstRefusal_59 (by decide) ?_
        exact hE _ _ _ _ hf dX9_firstRefusal_60 rfl

set_option maxRecDepth 100000 in
set_option maxHeartbeats 4000000 in
theorem cX9_orderCount_ {D : va_G} {t : Nat → ClassId} {E : gx_E} {l : Launch} {ad : Nat → Nat} {rs : va_W} {σ : OS} {q : (Int32 × OS)} (hf : fX9_orderCount σ = some q) : gx_C D t E l yX9_orderCount cX9_orderCount 1 (some .int) 0 0 [.ref (ad 0)] (mC ad t σ ++ rs) (mC ad t q.2 ++ rs) (some (.int q.1)) := by
  refine gx_intro_i (by decide) (Nat.le_of_ble_eq_true rfl) (fun J g hE0 => ?_)
  have hE : ∀ (v : Int32) (σ : OS) (pc : Nat) (L : List (Nat × Value)), some (v, σ) = some q → decode cX9_orderCount pc = .ok (.ireturn, 1) → narrow .int (.int v) = .int v → J 0 0 (mC ad t σ ++ rs) pc L [.int v] := fun v σ pc L h h1 h2 => by cases h; exact hE0 pc L h1 h2
  unfold fX9_orderCount at hf
  show J 0 0 (mC ad t σ ++ rs) 0 [(0, .ref (ad 0))] []
  refine j_aload_n (pc := 0) g 0 dX9_orderCount_0 rfl ?_
  refine j_iconst (v := 0) (pc := 1) g dX9_orderCount_1 (by decide) ?_
  refine m9p_0 (pc := 2) g dX9_orderCount_2 ?_
  refine j_aload_n (pc := 5) g 0 dX9_orderCount_5 rfl ?_
  refine m9g_1 (pc := 6) g dX9_orderCount_6 ?_
  refine j_iconst (v := 5) (pc := 9) g dX9_orderCount_9 (by decide) ?_
  obtain ⟨h_10, hf⟩ := gx_ck hf
  refine m9l_1 (pc := 10) g h_10 dX9_orderCount_10 ?_
  exact hE _ _ _ _ hf dX9_orderCount_11 rfl

set_option maxRecDepth 100000 in
set_option maxHeartbeats 4000000 in
theorem cX9_asked_ {D : va_G} {t : Nat → ClassId} {E : gx_E} {l : Launch} {ad : Nat → Nat} {rs : va_W} {σ : OS} {p1 : Int32} {p2 : Int32} {q : (Int32 × OS)} (hf : fX9_asked σ p1 p2 = some q) : gx_C D t E l yX9_asked cX9_asked 3 (some .int) 1 22 [.ref (ad 0), .int p1, .int p2] (mC ad t σ ++ rs) (mC ad t q.2 ++ rs) (some (.int q.1)) := by
  refine gx_intro_i (by decide) (Nat.le_of_ble_eq_true rfl) (fun J g hE0 => ?_)
  have hE : ∀ (v : Int32) (σ : OS) (pc : Nat) (L : List (Nat × Value)), some (v, σ) = some q → decode cX9_asked pc = .ok (.ireturn, 1) → narrow .int (.int v) = .int v → J 0 0 (mC ad t σ ++ rs) pc L [.int v] := fun v σ pc L h h1 h2 => by cases h; exact hE0 pc L h1 h2
  unfold fX9_asked at hf
  show J 0 0 (mC ad t σ ++ rs) 0 [(0, .ref (ad 0)), (1, .int p1), (2, .int p2)] []
  refine j_aload_n (pc := 0) g 0 dX9_asked_0 rfl ?_
  refine j_iload_n (pc := 1) g 1 dX9_asked_1 rfl ?_
  refine j_iconst (v := 0) (pc := 2) g dX9_asked_2 (by decide) ?_
  refine j_aload_n (pc := 3) g 0 dX9_asked_3 rfl ?_
  refine m9g_1 (pc := 4) g dX9_asked_4 ?_
  refine j_iconst (v := 5) (pc := 7) g dX9_asked_7 (by decide) ?_
  obtain ⟨h_8, hf⟩ := gx_ck hf
  refine m9l_1 (pc := 8) g h_8 dX9_asked_8 ?_
  refine j_iconst (v := 1) (pc := 9) g dX9_asked_9 (by decide) ?_
  refine j_isub (pc := 10) g dX9_asked_10 ?_
  obtain ⟨r11, h_11, hf⟩ := gx_bs hf
  refine m9c_X9_in (pc := 11) g ⟨Nat.le_of_ble_eq_true rfl, Nat.le_of_ble_eq_true rfl⟩ ⟨Nat.zero_le _, Nat.zero_le _⟩ (Nat.le_of_ble_eq_true rfl) h_11 dX9_asked_11 ?_
  refine j_if_eq (tgt := 21) (pc := 14) g dX9_asked_14 (by decide) (fun c_14 => ?_) (fun c_14 => ?_)
  · have hf := gx_it c_14 hf
    refine j_iconst (v := 1) (pc := 21) g dX9_asked_21 (by decide) ?_
    refine m9p_0 (pc := 22) g dX9_asked_22 ?_
    refine j_aload_n (pc := 25) g 0 dX9_asked_25 rfl ?_
    refine m9g_0 (pc := 26) g dX9_asked_26 ?_
    refine j_if_le (tgt := 36) (pc := 29) g dX9_asked_29 (by decide) (fun c_29 => ?_) (fun c_29 => ?_)
    · have hf := gx_it c_29 hf
      refine j_aload_n (pc := 36) g 0 dX9_asked_36 rfl ?_
      refine j_iload_n (pc := 37) g 1 dX9_asked_37 rfl ?_
      refine j_iload_n (pc := 38) g 2 dX9_asked_38 rfl ?_
      obtain ⟨r39, h_39, hf⟩ := gx_bs hf
      refine m9c_X9_order (pc := 39) g ⟨Nat.le_of_ble_eq_true rfl, Nat.le_of_ble_eq_true rfl⟩ ⟨Nat.zero_le _, Nat.zero_le _⟩ (Nat.le_of_ble_eq_true rfl) h_39 dX9_asked_39 ?_
      exact hE _ _ _ _ hf dX9_asked_42 rfl
    · have hf := gx_if c_29 hf
      refine j_iconst (v := 0) (pc := 32) g dX9_asked_32 (by decide) ?_
      refine j_goto (tgt := 42) (pc := 33) g dX9_asked_33 (by decide) ?_
      exact hE _ _ _ _ hf dX9_asked_42 rfl
  · have hf := gx_if c_14 hf
    refine j_iconst (v := 0) (pc := 17) g dX9_asked_17 (by decide) ?_
    refine j_goto (tgt := 22) (pc := 18) g dX9_asked_18 (by decide) ?_
    refine m9p_0 (pc := 22) g dX9_asked_22 ?_
    refine j_aload_n (pc := 25) g 0 dX9_asked_25 rfl ?_
    refine m9g_0 (pc := 26) g dX9_asked_26 ?_
    refine j_if_le (tgt := 36) (pc := 29) g dX9_asked_29 (by decide) (fun c_29 => ?_) (fun c_29 => ?_)
    · have hf := gx_it c_29 hf
      refine j_aload_n (pc := 36) g 0 dX9_asked_36 rfl ?_
      refine j_iload_n (pc := 37) g 1 dX9_asked_37 rfl ?_
      refine j_iload_n (pc := 38) g 2 dX9_asked_38 rfl ?_
      obtain ⟨r39, h_39, hf⟩ := gx_bs hf
      refine m9c_X9_order (pc := 39) g ⟨Nat.le_of_ble_eq_true rfl, Nat.le_of_ble_eq_true rfl⟩ ⟨Nat.zero_le _, Nat.zero_le _⟩ (Nat.le_of_ble_eq_true rfl) h_39 dX9_asked_39 ?_
      exact hE _ _ _ _ hf dX9_asked_42 rfl
    · have hf := gx_if c_29 hf
      refine j_iconst (v := 0) (pc := 32) g dX9_asked_32 (by decide) ?_
      refine j_goto (tgt := 42) (pc := 33) g dX9_asked_33 (by decide) ?_
      exact hE _ _ _ _ hf dX9_asked_42 rfl
theorem m9c_X9_asked {D : va_G} {t : Nat → ClassId} {E : gx_E} {l : Launch} {R : Room} {cc : ByteArray} {nL : Nat} {J : gx_J} {ad : Nat → Nat} {rs : va_W} {k n pc : Nat} {L : List (Nat × Value)} {rest : List Value} (g : gx_G D t E l R cc RX9 nL J) {σ : OS} {x0 : Int32} {x1 : Int32} {q : (Int32 × OS)} (hR : 1 + 1 ≤ R.frames ∧ 8 + (3 + 11) + 22 ≤ R.locals) (hkn : k ≤ R.cells ∧ n ≤ R.slots) (hcat : (rest.map fun v => v.category).sum ≤ 8) (hf : fX9_asked σ x0 x1 = some q) (hd : decode cc pc = .ok (.invokevirtual 161, 3)) (kk : J k n (mC ad t q.2 ++ rs) (pc + 3) L (.int q.1 :: rest)) : J k n (mC ad t σ ++ rs) pc L (.int x1 :: .int x0 :: .ref (ad 0) :: rest) := j_callVi (na := 2) (As := [.int x0, .int x1]) (q0 := 0) (ci := 10) g (cX9_asked_  hf) q_i_X9_asked q_s_X9_asked rfl rfl rfl q_c_X9_asked q_l_X9_161 q_n_X9 (by decide +kernel) rfl hR hkn hcat (.refl _) (.refl _) hd kk rfl
set_option maxRecDepth 100000 in
set_option maxHeartbeats 4000000 in
theorem cX9_holder_ {D : va_G} {t : Nat → ClassId} {E : gx_E} {l : Launch} {ad : Nat → Nat} {rs : va_W} {σ : OS} {p1 : Int32} {q : (Int32 × OS)} (hf : fX9_holder σ p1 = some q) : gx_C D t E l yX9_holder cX9_holder 2 (some .int) 2 44 [.ref (ad 0), .int p1] (mC ad t σ ++ rs) (mC ad t q.2 ++ rs) (some (.int q.1)) := by
  refine gx_intro_i (by decide) (Nat.le_of_ble_eq_true rfl) (fun J g hE0 => ?_)
  have hE : ∀ (v : Int32) (σ : OS) (pc : Nat) (L : List (Nat × Value)), some (v, σ) = some q → decode cX9_holder pc = .ok (.ireturn, 1) → narrow .int (.int v) = .int v → J 0 0 (mC ad t σ ++ rs) pc L [.int v] := fun v σ pc L h h1 h2 => by cases h; exact hE0 pc L h1 h2
  unfold fX9_holder at hf
  show J 0 0 (mC ad t σ ++ rs) 0 [(0, .ref (ad 0)), (1, .int p1)] []
  refine j_aload_n (pc := 0) g 0 dX9_holder_0 rfl ?_
  refine j_iload_n (pc := 1) g 1 dX9_holder_1 rfl ?_
  refine j_iconst (v := 0) (pc := 2) g dX9_holder_2 (by decide) ?_
  obtain ⟨r3, h_3, hf⟩ := gx_bs hf
  refine m9c_X9_asked (pc := 3) g ⟨Nat.le_of_ble_eq_true rfl, Nat.le_of_ble_eq_true rfl⟩ ⟨Nat.zero_le _, Nat.zero_le _⟩ (Nat.le_of_ble_eq_true rfl) h_3 dX9_holder_3 ?_
  exact hE _ _ _ _ hf dX9_holder_6 rfl

set_option maxRecDepth 100000 in
set_option maxHeartbeats 4000000 in
theorem cX9_target_ {D : va_G} {t : Nat → ClassId} {E : gx_E} {l : Launch} {ad : Nat → Nat} {rs : va_W} {σ : OS} {p1 : Int32} {q : (Int32 × OS)} (hf : fX9_target σ p1 = some q) : gx_C D t E l yX9_target cX9_target 2 (some .int) 2 44 [.ref (ad 0), .int p1] (mC ad t σ ++ rs) (mC ad t q.2 ++ rs) (some (.int q.1)) := by
  refine gx_intro_i (by decide) (Nat.le_of_ble_eq_true rfl) (fun J g hE0 => ?_)
  have hE : ∀ (v : Int32) (σ : OS) (pc : Nat) (L : List (Nat × Value)), some (v, σ) = some q → decode cX9_target pc = .ok (.ireturn, 1) → narrow .int (.int v) = .int v → J 0 0 (mC ad t σ ++ rs) pc L [.int v] := fun v σ pc L h h1 h2 => by cases h; exact hE0 pc L h1 h2
  unfold fX9_target at hf
  show J 0 0 (mC ad t σ ++ rs) 0 [(0, .ref (ad 0)), (1, .int p1)] []
  refine j_aload_n (pc := 0) g 0 dX9_target_0 rfl ?_
  refine j_iload_n (pc := 1) g 1 dX9_target_1 rfl ?_
  refine j_iconst (v := 1) (pc := 2) g dX9_target_2 (by decide) ?_
  obtain ⟨r3, h_3, hf⟩ := gx_bs hf
  refine m9c_X9_asked (pc := 3) g ⟨Nat.le_of_ble_eq_true rfl, Nat.le_of_ble_eq_true rfl⟩ ⟨Nat.zero_le _, Nat.zero_le _⟩ (Nat.le_of_ble_eq_true rfl) h_3 dX9_target_3 ?_
  exact hE _ _ _ _ hf dX9_target_6 rfl

set_option maxRecDepth 100000 in
set_option maxHeartbeats 4000000 in
theorem cX9_severity_ {D : va_G} {t : Nat → ClassId} {E : gx_E} {l : Launch} {ad : Nat → Nat} {rs : va_W} {σ : OS} {p1 : Int32} {q : (Int32 × OS)} (hf : fX9_severity σ p1 = some q) : gx_C D t E l yX9_severity cX9_severity 2 (some .int) 2 44 [.ref (ad 0), .int p1] (mC ad t σ ++ rs) (mC ad t q.2 ++ rs) (some (.int q.1)) := by
  refine gx_intro_i (by decide) (Nat.le_of_ble_eq_true rfl) (fun J g hE0 => ?_)
  have hE : ∀ (v : Int32) (σ : OS) (pc : Nat) (L : List (Nat × Value)), some (v, σ) = some q → decode cX9_severity pc = .ok (.ireturn, 1) → narrow .int (.int v) = .int v → J 0 0 (mC ad t σ ++ rs) pc L [.int v] := fun v σ pc L h h1 h2 => by cases h; exact hE0 pc L h1 h2
  unfold fX9_severity at hf
  show J 0 0 (mC ad t σ ++ rs) 0 [(0, .ref (ad 0)), (1, .int p1)] []
  refine j_aload_n (pc := 0) g 0 dX9_severity_0 rfl ?_
  refine j_iload_n (pc := 1) g 1 dX9_severity_1 rfl ?_
  refine j_iconst (v := 2) (pc := 2) g dX9_severity_2 (by decide) ?_
  obtain ⟨r3, h_3, hf⟩ := gx_bs hf
  refine m9c_X9_asked (pc := 3) g ⟨Nat.le_of_ble_eq_true rfl, Nat.le_of_ble_eq_true rfl⟩ ⟨Nat.zero_le _, Nat.zero_le _⟩ (Nat.le_of_ble_eq_true rfl) h_3 dX9_severity_3 ?_
  exact hE _ _ _ _ hf dX9_severity_6 rfl

set_option maxRecDepth 100000 in
set_option maxHeartbeats 4000000 in
theorem cX9_executedOrders_ {D : va_G} {t : Nat → ClassId} {E : gx_E} {l : Launch} {ad : Nat → Nat} {rs : va_W} {σ : OS} {q : (Int32 × OS)} (hf : fX9_executedOrders σ = some q) : gx_C D t E l yX9_executedOrders cX9_executedOrders 1 (some .int) 0 0 [.ref (ad 0)] (mC ad t σ ++ rs) (mC ad t q.2 ++ rs) (some (.int q.1)) := by
  refine gx_intro_i (by decide) (Nat.le_of_ble_eq_true rfl) (fun J g hE0 => ?_)
  have hE : ∀ (v : Int32) (σ : OS) (pc : Nat) (L : List (Nat × Value)), some (v, σ) = some q → decode cX9_executedOrders pc = .ok (.ireturn, 1) → narrow .int (.int v) = .int v → J 0 0 (mC ad t σ ++ rs) pc L [.int v] := fun v σ pc L h h1 h2 => by cases h; exact hE0 pc L h1 h2
  unfold fX9_executedOrders at hf
  show J 0 0 (mC ad t σ ++ rs) 0 [(0, .ref (ad 0))] []
  refine j_aload_n (pc := 0) g 0 dX9_executedOrders_0 rfl ?_
  refine j_iconst (v := 0) (pc := 1) g dX9_executedOrders_1 (by decide) ?_
  refine m9p_0 (pc := 2) g dX9_executedOrders_2 ?_
  refine j_aload_n (pc := 5) g 0 dX9_executedOrders_5 rfl ?_
  refine m9g_1 (pc := 6) g dX9_executedOrders_6 ?_
  refine j_iconst (v := 2) (pc := 9) g dX9_executedOrders_9 (by decide) ?_
  obtain ⟨h_10, hf⟩ := gx_ck hf
  refine m9l_1 (pc := 10) g h_10 dX9_executedOrders_10 ?_
  exact hE _ _ _ _ hf dX9_executedOrders_11 rfl

set_option maxRecDepth 100000 in
set_option maxHeartbeats 4000000 in
theorem cX9_refusedOrders_ {D : va_G} {t : Nat → ClassId} {E : gx_E} {l : Launch} {ad : Nat → Nat} {rs : va_W} {σ : OS} {q : (Int32 × OS)} (hf : fX9_refusedOrders σ = some q) : gx_C D t E l yX9_refusedOrders cX9_refusedOrders 1 (some .int) 0 0 [.ref (ad 0)] (mC ad t σ ++ rs) (mC ad t q.2 ++ rs) (some (.int q.1)) := by
  refine gx_intro_i (by decide) (Nat.le_of_ble_eq_true rfl) (fun J g hE0 => ?_)
  have hE : ∀ (v : Int32) (σ : OS) (pc : Nat) (L : List (Nat × Value)), some (v, σ) = some q → decode cX9_refusedOrders pc = .ok (.ireturn, 1) → narrow .int (.int v) = .int v → J 0 0 (mC ad t σ ++ rs) pc L [.int v] := fun v σ pc L h h1 h2 => by cases h; exact hE0 pc L h1 h2
  unfold fX9_refusedOrders at hf
  show J 0 0 (mC ad t σ ++ rs) 0 [(0, .ref (ad 0))] []
  refine j_aload_n (pc := 0) g 0 dX9_refusedOrders_0 rfl ?_
  refine j_iconst (v := 0) (pc := 1) g dX9_refusedOrders_1 (by decide) ?_
  refine m9p_0 (pc := 2) g dX9_refusedOrders_2 ?_
  refine j_aload_n (pc := 5) g 0 dX9_refusedOrders_5 rfl ?_
  refine m9g_1 (pc := 6) g dX9_refusedOrders_6 ?_
  refine j_iconst (v := 3) (pc := 9) g dX9_refusedOrders_9 (by decide) ?_
  obtain ⟨h_10, hf⟩ := gx_ck hf
  refine m9l_1 (pc := 10) g h_10 dX9_refusedOrders_10 ?_
  exact hE _ _ _ _ hf dX9_refusedOrders_11 rfl

set_option maxRecDepth 100000 in
set_option maxHeartbeats 4000000 in
theorem cX9_lostOrders_ {D : va_G} {t : Nat → ClassId} {E : gx_E} {l : Launch} {ad : Nat → Nat} {rs : va_W} {σ : OS} {q : (Int32 × OS)} (hf : fX9_lostOrders σ = some q) : gx_C D t E l yX9_lostOrders cX9_lostOrders 1 (some .int) 0 0 [.ref (ad 0)] (mC ad t σ ++ rs) (mC ad t q.2 ++ rs) (some (.int q.1)) := by
  refine gx_intro_i (by decide) (Nat.le_of_ble_eq_true rfl) (fun J g hE0 => ?_)
  have hE : ∀ (v : Int32) (σ : OS) (pc : Nat) (L : List (Nat × Value)), some (v, σ) = some q → decode cX9_lostOrders pc = .ok (.ireturn, 1) → narrow .int (.int v) = .int v → J 0 0 (mC ad t σ ++ rs) pc L [.int v] := fun v σ pc L h h1 h2 => by cases h; exact hE0 pc L h1 h2
  unfold fX9_lostOrders at hf
  show J 0 0 (mC ad t σ ++ rs) 0 [(0, .ref (ad 0))] []
  refine j_aload_n (pc := 0) g 0 dX9_lostOrders_0 rfl ?_
  refine j_iconst (v := 0) (pc := 1) g dX9_lostOrders_1 (by decide) ?_
  refine m9p_0 (pc := 2) g dX9_lostOrders_2 ?_
  refine j_aload_n (pc := 5) g 0 dX9_lostOrders_5 rfl ?_
  refine m9g_1 (pc := 6) g dX9_lostOrders_6 ?_
  refine j_iconst (v := 4) (pc := 9) g dX9_lostOrders_9 (by decide) ?_
  obtain ⟨h_10, hf⟩ := gx_ck hf
  refine m9l_1 (pc := 10) g h_10 dX9_lostOrders_10 ?_
  exact hE _ _ _ _ hf dX9_lostOrders_11 rfl

set_option maxRecDepth 100000 in
set_option maxHeartbeats 4000000 in
theorem cX9_flagCount_ {D : va_G} {t : Nat → ClassId} {E : gx_E} {l : Launch} {ad : Nat → Nat} {rs : va_W} {σ : OS} {q : (Int32 × OS)} (hf : fX9_flagCount σ = some q) : gx_C D t E l yX9_flagCount cX9_flagCount 1 (some .int) 0 0 [.ref (ad 0)] (mC ad t σ ++ rs) (mC ad t q.2 ++ rs) (some (.int q.1)) := by
  refine gx_intro_i (by decide) (Nat.le_of_ble_eq_true rfl) (fun J g hE0 => ?_)
  have hE : ∀ (v : Int32) (σ : OS) (pc : Nat) (L : List (Nat × Value)), some (v, σ) = some q → decode cX9_flagCount pc = .ok (.ireturn, 1) → narrow .int (.int v) = .int v → J 0 0 (mC ad t σ ++ rs) pc L [.int v] := fun v σ pc L h h1 h2 => by cases h; exact hE0 pc L h1 h2
  unfold fX9_flagCount at hf
  show J 0 0 (mC ad t σ ++ rs) 0 [(0, .ref (ad 0))] []
  refine j_aload_n (pc := 0) g 0 dX9_flagCount_0 rfl ?_
  refine j_iconst (v := 0) (pc := 1) g dX9_flagCount_1 (by decide) ?_
  refine m9p_0 (pc := 2) g dX9_flagCount_2 ?_
  refine j_aload_n (pc := 5) g 0 dX9_flagCount_5 rfl ?_
  refine m9g_1 (pc := 6) g dX9_flagCount_6 ?_
  refine j_bipush (v := 6) (pc := 9) g dX9_flagCount_9 (by decide) ?_
  obtain ⟨h_11, hf⟩ := gx_ck hf
  refine m9l_1 (pc := 11) g h_11 dX9_flagCount_11 ?_
  exact hE _ _ _ _ hf dX9_flagCount_12 rfl

set_option maxRecDepth 100000 in
set_option maxHeartbeats 4000000 in
theorem cX9_meaning_ {D : va_G} {t : Nat → ClassId} {E : gx_E} {l : Launch} {ad : Nat → Nat} {rs : va_W} {σ : OS} {p1 : Int32} {p2 : Int32} {q : (Int32 × OS)} (hf : fX9_meaning σ p1 p2 = some q) : gx_C D t E l yX9_meaning cX9_meaning 3 (some .int) 2 43 [.ref (ad 0), .int p1, .int p2] (mC ad t σ ++ rs) (mC ad t q.2 ++ rs) (some (.int q.1)) := by
  refine gx_intro_i (by decide) (Nat.le_of_ble_eq_true rfl) (fun J g hE0 => ?_)
  have hE : ∀ (v : Int32) (σ : OS) (pc : Nat) (L : List (Nat × Value)), some (v, σ) = some q → decode cX9_meaning pc = .ok (.ireturn, 1) → narrow .int (.int v) = .int v → J 0 0 (mC ad t σ ++ rs) pc L [.int v] := fun v σ pc L h h1 h2 => by cases h; exact hE0 pc L h1 h2
  unfold fX9_meaning at hf
  show J 0 0 (mC ad t σ ++ rs) 0 [(0, .ref (ad 0)), (1, .int p1), (2, .int p2)] []
  refine j_aload_n (pc := 0) g 0 dX9_meaning_0 rfl ?_
  refine j_iload_n (pc := 1) g 1 dX9_meaning_1 rfl ?_
  refine j_iload_n (pc := 2) g 2 dX9_meaning_2 rfl ?_
  obtain ⟨r3, h_3, hf⟩ := gx_bs hf
  refine m9c_X9_isSign (pc := 3) g ⟨Nat.le_of_ble_eq_true rfl, Nat.le_of_ble_eq_true rfl⟩ ⟨Nat.zero_le _, Nat.zero_le _⟩ (Nat.le_of_ble_eq_true rfl) h_3 dX9_meaning_3 ?_
  refine j_if_ne (tgt := 13) (pc := 6) g dX9_meaning_6 (by decide) (fun c_6 => ?_) (fun c_6 => ?_)
  · have hf := gx_if c_6 hf
    refine j_aload_n (pc := 13) g 0 dX9_meaning_13 rfl ?_
    refine j_iload_n (pc := 14) g 1 dX9_meaning_14 rfl ?_
    refine j_iload_n (pc := 15) g 2 dX9_meaning_15 rfl ?_
    obtain ⟨r16, h_16, hf⟩ := gx_bs hf
    refine m9c_X9_placeOf (pc := 16) g ⟨Nat.le_of_ble_eq_true rfl, Nat.le_of_ble_eq_true rfl⟩ ⟨Nat.zero_le _, Nat.zero_le _⟩ (Nat.le_of_ble_eq_true rfl) h_16 dX9_meaning_16 ?_
    refine j_iconst (v := -1) (pc := 19) g dX9_meaning_19 (by decide) ?_
    refine j_icmp_ne (tgt := 27) (pc := 20) g dX9_meaning_20 (by decide) (fun c_20 => ?_) (fun c_20 => ?_)
    · have hf := gx_if c_20 hf
      refine j_iconst (v := 0) (pc := 27) g dX9_meaning_27 (by decide) ?_
      refine m9p_0 (pc := 28) g dX9_meaning_28 ?_
      refine j_aload_n (pc := 31) g 0 dX9_meaning_31 rfl ?_
      refine m9g_0 (pc := 32) g dX9_meaning_32 ?_
      refine j_if_le (tgt := 42) (pc := 35) g dX9_meaning_35 (by decide) (fun c_35 => ?_) (fun c_35 => ?_)
      · have hf := gx_it c_35 hf
        refine j_aload_n (pc := 42) g 0 dX9_meaning_42 rfl ?_
        refine m9g_1 (pc := 43) g dX9_meaning_43 ?_
        refine j_bipush (v := 91) (pc := 46) g dX9_meaning_46 (by decide) ?_
        refine j_iconst (v := 2) (pc := 48) g dX9_meaning_48 (by decide) ?_
        refine j_aload_n (pc := 49) g 0 dX9_meaning_49 rfl ?_
        refine j_iload_n (pc := 50) g 1 dX9_meaning_50 rfl ?_
        refine j_iload_n (pc := 51) g 2 dX9_meaning_51 rfl ?_
        obtain ⟨r52, h_52, hf⟩ := gx_bs hf
        refine m9c_X9_placeOf (pc := 52) g ⟨Nat.le_of_ble_eq_true rfl, Nat.le_of_ble_eq_true rfl⟩ ⟨Nat.zero_le _, Nat.zero_le _⟩ (Nat.le_of_ble_eq_true rfl) h_52 dX9_meaning_52 ?_
        refine j_imul (pc := 55) g dX9_meaning_55 ?_
        refine j_iadd (pc := 56) g dX9_meaning_56 ?_
        refine j_iconst (v := 1) (pc := 57) g dX9_meaning_57 (by decide) ?_
        refine j_iadd (pc := 58) g dX9_meaning_58 ?_
        obtain ⟨h_59, hf⟩ := gx_ck hf
        refine m9l_1 (pc := 59) g h_59 dX9_meaning_59 ?_
        exact hE _ _ _ _ hf dX9_meaning_60 rfl
      · have hf := gx_if c_35 hf
        refine j_iconst (v := 0) (pc := 38) g dX9_meaning_38 (by decide) ?_
        refine j_goto (tgt := 60) (pc := 39) g dX9_meaning_39 (by decide) ?_
        exact hE _ _ _ _ hf dX9_meaning_60 rfl
    · have hf := gx_it c_20 hf
      refine j_iconst (v := 2) (pc := 23) g dX9_meaning_23 (by decide) ?_
      refine j_goto (tgt := 28) (pc := 24) g dX9_meaning_24 (by decide) ?_
      refine m9p_0 (pc := 28) g dX9_meaning_28 ?_
      refine j_aload_n (pc := 31) g 0 dX9_meaning_31 rfl ?_
      refine m9g_0 (pc := 32) g dX9_meaning_32 ?_
      refine j_if_le (tgt := 42) (pc := 35) g dX9_meaning_35 (by decide) (fun c_35 => ?_) (fun c_35 => ?_)
      · have hf := gx_it c_35 hf
        refine j_aload_n (pc := 42) g 0 dX9_meaning_42 rfl ?_
        refine m9g_1 (pc := 43) g dX9_meaning_43 ?_
        refine j_bipush (v := 91) (pc := 46) g dX9_meaning_46 (by decide) ?_
        refine j_iconst (v := 2) (pc := 48) g dX9_meaning_48 (by decide) ?_
        refine j_aload_n (pc := 49) g 0 dX9_meaning_49 rfl ?_
        refine j_iload_n (pc := 50) g 1 dX9_meaning_50 rfl ?_
        refine j_iload_n (pc := 51) g 2 dX9_meaning_51 rfl ?_
        obtain ⟨r52, h_52, hf⟩ := gx_bs hf
        refine m9c_X9_placeOf (pc := 52) g ⟨Nat.le_of_ble_eq_true rfl, Nat.le_of_ble_eq_true rfl⟩ ⟨Nat.zero_le _, Nat.zero_le _⟩ (Nat.le_of_ble_eq_true rfl) h_52 dX9_meaning_52 ?_
        refine j_imul (pc := 55) g dX9_meaning_55 ?_
        refine j_iadd (pc := 56) g dX9_meaning_56 ?_
        refine j_iconst (v := 1) (pc := 57) g dX9_meaning_57 (by decide) ?_
        refine j_iadd (pc := 58) g dX9_meaning_58 ?_
        obtain ⟨h_59, hf⟩ := gx_ck hf
        refine m9l_1 (pc := 59) g h_59 dX9_meaning_59 ?_
        exact hE _ _ _ _ hf dX9_meaning_60 rfl
      · have hf := gx_if c_35 hf
        refine j_iconst (v := 0) (pc := 38) g dX9_meaning_38 (by decide) ?_
        refine j_goto (tgt := 60) (pc := 39) g dX9_meaning_39 (by decide) ?_
        exact hE _ _ _ _ hf dX9_meaning_60 rfl
  · have hf := gx_it c_6 hf
    refine j_iconst (v := 1) (pc := 9) g dX9_meaning_9 (by decide) ?_
    refine j_goto (tgt := 28) (pc := 10) g dX9_meaning_10 (by decide) ?_
    refine m9p_0 (pc := 28) g dX9_meaning_28 ?_
    refine j_aload_n (pc := 31) g 0 dX9_meaning_31 rfl ?_
    refine m9g_0 (pc := 32) g dX9_meaning_32 ?_
    refine j_if_le (tgt := 42) (pc := 35) g dX9_meaning_35 (by decide) (fun c_35 => ?_) (fun c_35 => ?_)
    · have hf := gx_it c_35 hf
      refine j_aload_n (pc := 42) g 0 dX9_meaning_42 rfl ?_
      refine m9g_1 (pc := 43) g dX9_meaning_43 ?_
      refine j_bipush (v := 91) (pc := 46) g dX9_meaning_46 (by decide) ?_
      refine j_iconst (v := 2) (pc := 48) g dX9_meaning_48 (by decide) ?_
      refine j_aload_n (pc := 49) g 0 dX9_meaning_49 rfl ?_
      refine j_iload_n (pc := 50) g 1 dX9_meaning_50 rfl ?_
      refine j_iload_n (pc := 51) g 2 dX9_meaning_51 rfl ?_
      obtain ⟨r52, h_52, hf⟩ := gx_bs hf
      refine m9c_X9_placeOf (pc := 52) g ⟨Nat.le_of_ble_eq_true rfl, Nat.le_of_ble_eq_true rfl⟩ ⟨Nat.zero_le _, Nat.zero_le _⟩ (Nat.le_of_ble_eq_true rfl) h_52 dX9_meaning_52 ?_
      refine j_imul (pc := 55) g dX9_meaning_55 ?_
      refine j_iadd (pc := 56) g dX9_meaning_56 ?_
      refine j_iconst (v := 1) (pc := 57) g dX9_meaning_57 (by decide) ?_
      refine j_iadd (pc := 58) g dX9_meaning_58 ?_
      obtain ⟨h_59, hf⟩ := gx_ck hf
      refine m9l_1 (pc := 59) g h_59 dX9_meaning_59 ?_
      exact hE _ _ _ _ hf dX9_meaning_60 rfl
    · have hf := gx_if c_35 hf
      refine j_iconst (v := 0) (pc := 38) g dX9_meaning_38 (by decide) ?_
      refine j_goto (tgt := 60) (pc := 39) g dX9_meaning_39 (by decide) ?_
      exact hE _ _ _ _ hf dX9_meaning_60 rfl

set_option maxRecDepth 100000 in
set_option maxHeartbeats 4000000 in
theorem tX9_flagsWith_23 {D : va_G} {t : Nat → ClassId} {E : gx_E} {l : Launch} {J : gx_J} {ad : Nat → Nat} {rs : va_W} {q : (Int32 × OS)} (g : gx_G D t E l ({ frames := 1, cells := 0, slots := 0, locals := 22 }) cX9_flagsWith RX9 4 J) (hE : ∀ (v : Int32) (σ : OS) (pc : Nat) (L : List (Nat × Value)), some (v, σ) = some q → decode cX9_flagsWith pc = .ok (.ireturn, 1) → narrow .int (.int v) = .int v → J 0 0 (mC ad t σ ++ rs) pc L [.int v])  : ∀ (n : Nat) (σ : OS) (v1 : Int32) (v2 : Int32) (v3 : Int32), fX9_flagsWith_23 n σ v1 v2 v3 = some q → J 0 0 (mC ad t σ ++ rs) 23 [(0, .ref (ad 0)), (1, .int v1), (2, .int v2), (3, .int v3)] [] := by
  intro n
  induction n with
  | zero => intro σ v1 v2 v3 hf; cases hf
  | succ n ih =>
    intro σ v1 v2 v3 hf
    replace hf := (fX9_flagsWith_23_s n σ v1 v2 v3).symm.trans hf
    refine j_iload_n (pc := 23) g 3 dX9_flagsWith_23 rfl ?_
    refine j_aload_n (pc := 24) g 0 dX9_flagsWith_24 rfl ?_
    refine m9g_1 (pc := 25) g dX9_flagsWith_25 ?_
    refine j_bipush (v := 6) (pc := 28) g dX9_flagsWith_28 (by decide) ?_
    obtain ⟨h_30, hf⟩ := gx_ck hf
    refine m9l_1 (pc := 30) g h_30 dX9_flagsWith_30 ?_
    refine j_icmp_ge (tgt := 72) (pc := 31) g dX9_flagsWith_31 (by decide) (fun c_31 => ?_) (fun c_31 => ?_)
    · have hf := gx_it c_31 hf
      refine j_iload_n (pc := 72) g 2 dX9_flagsWith_72 rfl ?_
      exact hE _ _ _ _ hf dX9_flagsWith_73 rfl
    · have hf := gx_if c_31 hf
      refine j_aload_n (pc := 34) g 0 dX9_flagsWith_34 rfl ?_
      refine m9g_0 (pc := 35) g dX9_flagsWith_35 ?_
      refine j_if_ne (tgt := 72) (pc := 38) g dX9_flagsWith_38 (by decide) (fun c_38 => ?_) (fun c_38 => ?_)
      · have hf := gx_if c_38 hf
        refine j_iload_n (pc := 72) g 2 dX9_flagsWith_72 rfl ?_
        exact hE _ _ _ _ hf dX9_flagsWith_73 rfl
      · have hf := gx_it c_38 hf
        refine j_iload_n (pc := 41) g 2 dX9_flagsWith_41 rfl ?_
        refine j_aload_n (pc := 42) g 0 dX9_flagsWith_42 rfl ?_
        refine m9g_1 (pc := 43) g dX9_flagsWith_43 ?_
        refine j_bipush (v := 91) (pc := 46) g dX9_flagsWith_46 (by decide) ?_
        refine j_iconst (v := 2) (pc := 48) g dX9_flagsWith_48 (by decide) ?_
        refine j_iload_n (pc := 49) g 3 dX9_flagsWith_49 rfl ?_
        refine j_imul (pc := 50) g dX9_flagsWith_50 ?_
        refine j_iadd (pc := 51) g dX9_flagsWith_51 ?_
        refine j_iconst (v := 1) (pc := 52) g dX9_flagsWith_52 (by decide) ?_
        refine j_iadd (pc := 53) g dX9_flagsWith_53 ?_
        obtain ⟨h_54, hf⟩ := gx_ck hf
        refine m9l_1 (pc := 54) g h_54 dX9_flagsWith_54 ?_
        refine j_iload_n (pc := 55) g 1 dX9_flagsWith_55 rfl ?_
        refine j_icmp_ne (tgt := 63) (pc := 56) g dX9_flagsWith_56 (by decide) (fun c_56 => ?_) (fun c_56 => ?_)
        · have hf := gx_if c_56 hf
          refine j_iconst (v := 0) (pc := 63) g dX9_flagsWith_63 (by decide) ?_
          refine j_iadd (pc := 64) g dX9_flagsWith_64 ?_
          refine j_istore_n (L' := [(2, .int (v2 + (0 : Int32))), (0, .ref (ad 0)), (1, .int v1), (3, .int v3)]) (pc := 65) g dX9_flagsWith_65 rfl (Nat.le_of_ble_eq_true rfl) rfl ?_
          refine j_iinc (v := v3 + 1) (L' := [(3, .int (v3 + 1)), (2, .int (v2 + (0 : Int32))), (0, .ref (ad 0)), (1, .int v1)]) (pc := 66) g 3 dX9_flagsWith_66 rfl rfl (Nat.le_of_ble_eq_true rfl) rfl ?_
          refine j_goto (tgt := 23) (pc := 69) g dX9_flagsWith_69 (by decide) ?_
          refine j_sub (pc := 23) g [2, 3, 1, 0] rfl ?_
          exact ih σ v1 (v2 + (0 : Int32)) (v3 + 1) hf
        · have hf := gx_it c_56 hf
          refine j_iconst (v := 1) (pc := 59) g dX9_flagsWith_59 (by decide) ?_
          refine j_goto (tgt := 64) (pc := 60) g dX9_flagsWith_60 (by decide) ?_
          refine j_iadd (pc := 64) g dX9_flagsWith_64 ?_
          refine j_istore_n (L' := [(2, .int (v2 + (1 : Int32))), (0, .ref (ad 0)), (1, .int v1), (3, .int v3)]) (pc := 65) g dX9_flagsWith_65 rfl (Nat.le_of_ble_eq_true rfl) rfl ?_
          refine j_iinc (v := v3 + 1) (L' := [(3, .int (v3 + 1)), (2, .int (v2 + (1 : Int32))), (0, .ref (ad 0)), (1, .int v1)]) (pc := 66) g 3 dX9_flagsWith_66 rfl rfl (Nat.le_of_ble_eq_true rfl) rfl ?_
          refine j_goto (tgt := 23) (pc := 69) g dX9_flagsWith_69 (by decide) ?_
          refine j_sub (pc := 23) g [2, 3, 1, 0] rfl ?_
          exact ih σ v1 (v2 + (1 : Int32)) (v3 + 1) hf
set_option maxRecDepth 100000 in
set_option maxHeartbeats 4000000 in
theorem cX9_flagsWith_ {D : va_G} {t : Nat → ClassId} {E : gx_E} {l : Launch} {ad : Nat → Nat} {rs : va_W} {σ : OS} {p1 : Int32} {q : (Int32 × OS)} (hf : fX9_flagsWith σ p1 = some q) : gx_C D t E l yX9_flagsWith cX9_flagsWith 4 (some .int) 1 22 [.ref (ad 0), .int p1] (mC ad t σ ++ rs) (mC ad t q.2 ++ rs) (some (.int q.1)) := by
  refine gx_intro_i (by decide) (Nat.le_of_ble_eq_true rfl) (fun J g hE0 => ?_)
  have hE : ∀ (v : Int32) (σ : OS) (pc : Nat) (L : List (Nat × Value)), some (v, σ) = some q → decode cX9_flagsWith pc = .ok (.ireturn, 1) → narrow .int (.int v) = .int v → J 0 0 (mC ad t σ ++ rs) pc L [.int v] := fun v σ pc L h h1 h2 => by cases h; exact hE0 pc L h1 h2
  unfold fX9_flagsWith at hf
  show J 0 0 (mC ad t σ ++ rs) 0 [(0, .ref (ad 0)), (1, .int p1)] []
  refine j_aload_n (pc := 0) g 0 dX9_flagsWith_0 rfl ?_
  refine j_iload_n (pc := 1) g 1 dX9_flagsWith_1 rfl ?_
  refine j_iconst (v := 0) (pc := 2) g dX9_flagsWith_2 (by decide) ?_
  refine j_bipush (v := 99) (pc := 3) g dX9_flagsWith_3 (by decide) ?_
  obtain ⟨r5, h_5, hf⟩ := gx_bs hf
  refine m9c_X9_in (pc := 5) g ⟨Nat.le_of_ble_eq_true rfl, Nat.le_of_ble_eq_true rfl⟩ ⟨Nat.zero_le _, Nat.zero_le _⟩ (Nat.le_of_ble_eq_true rfl) h_5 dX9_flagsWith_5 ?_
  refine j_if_eq (tgt := 15) (pc := 8) g dX9_flagsWith_8 (by decide) (fun c_8 => ?_) (fun c_8 => ?_)
  · have hf := gx_it c_8 hf
    refine j_iconst (v := 1) (pc := 15) g dX9_flagsWith_15 (by decide) ?_
    refine m9p_0 (pc := 16) g dX9_flagsWith_16 ?_
    refine j_iconst (v := 0) (pc := 19) g dX9_flagsWith_19 (by decide) ?_
    refine j_istore_n (L' := [(2, .int (0 : Int32)), (0, .ref (ad 0)), (1, .int p1)]) (pc := 20) g dX9_flagsWith_20 rfl (Nat.le_of_ble_eq_true rfl) rfl ?_
    refine j_iconst (v := 0) (pc := 21) g dX9_flagsWith_21 (by decide) ?_
    refine j_istore_n (L' := [(3, .int (0 : Int32)), (2, .int (0 : Int32)), (0, .ref (ad 0)), (1, .int p1)]) (pc := 22) g dX9_flagsWith_22 rfl (Nat.le_of_ble_eq_true rfl) rfl ?_
    refine j_sub (pc := 23) g [2, 3, 1, 0] rfl ?_
    exact tX9_flagsWith_23 g hE 2000 (os_sf σ 0 (1 : Int32)) p1 (0 : Int32) (0 : Int32) hf
  · have hf := gx_if c_8 hf
    refine j_iconst (v := 0) (pc := 11) g dX9_flagsWith_11 (by decide) ?_
    refine j_goto (tgt := 16) (pc := 12) g dX9_flagsWith_12 (by decide) ?_
    refine m9p_0 (pc := 16) g dX9_flagsWith_16 ?_
    refine j_iconst (v := 0) (pc := 19) g dX9_flagsWith_19 (by decide) ?_
    refine j_istore_n (L' := [(2, .int (0 : Int32)), (0, .ref (ad 0)), (1, .int p1)]) (pc := 20) g dX9_flagsWith_20 rfl (Nat.le_of_ble_eq_true rfl) rfl ?_
    refine j_iconst (v := 0) (pc := 21) g dX9_flagsWith_21 (by decide) ?_
    refine j_istore_n (L' := [(3, .int (0 : Int32)), (2, .int (0 : Int32)), (0, .ref (ad 0)), (1, .int p1)]) (pc := 22) g dX9_flagsWith_22 rfl (Nat.le_of_ble_eq_true rfl) rfl ?_
    refine j_sub (pc := 23) g [2, 3, 1, 0] rfl ?_
    exact tX9_flagsWith_23 g hE 2000 (os_sf σ 0 (0 : Int32)) p1 (0 : Int32) (0 : Int32) hf

set_option maxRecDepth 100000 in
set_option maxHeartbeats 4000000 in
theorem cX9_isAhead_ {D : va_G} {t : Nat → ClassId} {E : gx_E} {l : Launch} {ad : Nat → Nat} {rs : va_W} {σ : OS} {p1 : Int32} {p2 : Int32} {q : Int32} (hf : fX9_isAhead σ p1 p2 = some q) : gx_C D t E l yX9_isAhead cX9_isAhead 3 (some .boolean) 1 22 [.ref (ad 0), .int p1, .int p2] (mC ad t σ ++ rs) (mC ad t σ ++ rs) (some (.int q)) := by
  refine gx_intro_i (by decide) (Nat.le_of_ble_eq_true rfl) (fun J g hE0 => ?_)
  have hE : ∀ (v : Int32) (pc : Nat) (L : List (Nat × Value)), some v = some q → decode cX9_isAhead pc = .ok (.ireturn, 1) → narrow .boolean (.int v) = .int v → J 0 0 (mC ad t σ ++ rs) pc L [.int v] := fun v pc L h h1 h2 => by cases h; exact hE0 pc L h1 h2
  unfold fX9_isAhead at hf
  show J 0 0 (mC ad t σ ++ rs) 0 [(0, .ref (ad 0)), (1, .int p1), (2, .int p2)] []
  refine j_aload_n (pc := 0) g 0 dX9_isAhead_0 rfl ?_
  refine j_iload_n (pc := 1) g 1 dX9_isAhead_1 rfl ?_
  refine j_iconst (v := 1) (pc := 2) g dX9_isAhead_2 (by decide) ?_
  obtain ⟨r3, h_3, hf⟩ := gx_bs hf
  refine m9c_X9_of (pc := 3) g ⟨Nat.le_of_ble_eq_true rfl, Nat.le_of_ble_eq_true rfl⟩ ⟨Nat.zero_le _, Nat.zero_le _⟩ (Nat.le_of_ble_eq_true rfl) h_3 dX9_isAhead_3 ?_
  refine j_aload_n (pc := 6) g 0 dX9_isAhead_6 rfl ?_
  refine j_iload_n (pc := 7) g 2 dX9_isAhead_7 rfl ?_
  refine j_iconst (v := 1) (pc := 8) g dX9_isAhead_8 (by decide) ?_
  obtain ⟨r9, h_9, hf⟩ := gx_bs hf
  refine m9c_X9_of (pc := 9) g ⟨Nat.le_of_ble_eq_true rfl, Nat.le_of_ble_eq_true rfl⟩ ⟨Nat.zero_le _, Nat.zero_le _⟩ (Nat.le_of_ble_eq_true rfl) h_9 dX9_isAhead_9 ?_
  refine j_icmp_eq (tgt := 36) (pc := 12) g dX9_isAhead_12 (by decide) (fun c_12 => ?_) (fun c_12 => ?_)
  · have hf := gx_it c_12 hf
    refine j_aload_n (pc := 36) g 0 dX9_isAhead_36 rfl ?_
    refine j_iload_n (pc := 37) g 1 dX9_isAhead_37 rfl ?_
    refine j_iconst (v := 2) (pc := 38) g dX9_isAhead_38 (by decide) ?_
    obtain ⟨r39, h_39, hf⟩ := gx_bs hf
    refine m9c_X9_of (pc := 39) g ⟨Nat.le_of_ble_eq_true rfl, Nat.le_of_ble_eq_true rfl⟩ ⟨Nat.zero_le _, Nat.zero_le _⟩ (Nat.le_of_ble_eq_true rfl) h_39 dX9_isAhead_39 ?_
    refine j_aload_n (pc := 42) g 0 dX9_isAhead_42 rfl ?_
    refine j_iload_n (pc := 43) g 2 dX9_isAhead_43 rfl ?_
    refine j_iconst (v := 2) (pc := 44) g dX9_isAhead_44 (by decide) ?_
    obtain ⟨r45, h_45, hf⟩ := gx_bs hf
    refine m9c_X9_of (pc := 45) g ⟨Nat.le_of_ble_eq_true rfl, Nat.le_of_ble_eq_true rfl⟩ ⟨Nat.zero_le _, Nat.zero_le _⟩ (Nat.le_of_ble_eq_true rfl) h_45 dX9_isAhead_45 ?_
    refine j_icmp_ne (tgt := 64) (pc := 48) g dX9_isAhead_48 (by decide) (fun c_48 => ?_) (fun c_48 => ?_)
    · have hf := gx_if c_48 hf
      refine j_aload_n (pc := 64) g 0 dX9_isAhead_64 rfl ?_
      refine j_iload_n (pc := 65) g 1 dX9_isAhead_65 rfl ?_
      refine j_iconst (v := 2) (pc := 66) g dX9_isAhead_66 (by decide) ?_
      obtain ⟨r67, h_67, hf⟩ := gx_bs hf
      refine m9c_X9_of (pc := 67) g ⟨Nat.le_of_ble_eq_true rfl, Nat.le_of_ble_eq_true rfl⟩ ⟨Nat.zero_le _, Nat.zero_le _⟩ (Nat.le_of_ble_eq_true rfl) h_67 dX9_isAhead_67 ?_
      refine j_aload_n (pc := 70) g 0 dX9_isAhead_70 rfl ?_
      refine j_iload_n (pc := 71) g 2 dX9_isAhead_71 rfl ?_
      refine j_iconst (v := 2) (pc := 72) g dX9_isAhead_72 (by decide) ?_
      obtain ⟨r73, h_73, hf⟩ := gx_bs hf
      refine m9c_X9_of (pc := 73) g ⟨Nat.le_of_ble_eq_true rfl, Nat.le_of_ble_eq_true rfl⟩ ⟨Nat.zero_le _, Nat.zero_le _⟩ (Nat.le_of_ble_eq_true rfl) h_73 dX9_isAhead_73 ?_
      refine j_icmp_le (tgt := 83) (pc := 76) g dX9_isAhead_76 (by decide) (fun c_76 => ?_) (fun c_76 => ?_)
      · have hf := gx_it c_76 hf
        refine j_iconst (v := 0) (pc := 83) g dX9_isAhead_83 (by decide) ?_
        exact hE _ _ _ hf dX9_isAhead_84 rfl
      · have hf := gx_if c_76 hf
        refine j_iconst (v := 1) (pc := 79) g dX9_isAhead_79 (by decide) ?_
        refine j_goto (tgt := 84) (pc := 80) g dX9_isAhead_80 (by decide) ?_
        exact hE _ _ _ hf dX9_isAhead_84 rfl
    · have hf := gx_it c_48 hf
      refine j_iload_n (pc := 51) g 1 dX9_isAhead_51 rfl ?_
      refine j_iload_n (pc := 52) g 2 dX9_isAhead_52 rfl ?_
      refine j_icmp_ge (tgt := 60) (pc := 53) g dX9_isAhead_53 (by decide) (fun c_53 => ?_) (fun c_53 => ?_)
      · have hf := gx_it c_53 hf
        refine j_iconst (v := 0) (pc := 60) g dX9_isAhead_60 (by decide) ?_
        refine j_goto (tgt := 84) (pc := 61) g dX9_isAhead_61 (by decide) ?_
        exact hE _ _ _ hf dX9_isAhead_84 rfl
      · have hf := gx_if c_53 hf
        refine j_iconst (v := 1) (pc := 56) g dX9_isAhead_56 (by decide) ?_
        refine j_goto (tgt := 84) (pc := 57) g dX9_isAhead_57 (by decide) ?_
        exact hE _ _ _ hf dX9_isAhead_84 rfl
  · have hf := gx_if c_12 hf
    refine j_aload_n (pc := 15) g 0 dX9_isAhead_15 rfl ?_
    refine j_iload_n (pc := 16) g 1 dX9_isAhead_16 rfl ?_
    refine j_iconst (v := 1) (pc := 17) g dX9_isAhead_17 (by decide) ?_
    obtain ⟨r18, h_18, hf⟩ := gx_bs hf
    refine m9c_X9_of (pc := 18) g ⟨Nat.le_of_ble_eq_true rfl, Nat.le_of_ble_eq_true rfl⟩ ⟨Nat.zero_le _, Nat.zero_le _⟩ (Nat.le_of_ble_eq_true rfl) h_18 dX9_isAhead_18 ?_
    refine j_aload_n (pc := 21) g 0 dX9_isAhead_21 rfl ?_
    refine j_iload_n (pc := 22) g 2 dX9_isAhead_22 rfl ?_
    refine j_iconst (v := 1) (pc := 23) g dX9_isAhead_23 (by decide) ?_
    obtain ⟨r24, h_24, hf⟩ := gx_bs hf
    refine m9c_X9_of (pc := 24) g ⟨Nat.le_of_ble_eq_true rfl, Nat.le_of_ble_eq_true rfl⟩ ⟨Nat.zero_le _, Nat.zero_le _⟩ (Nat.le_of_ble_eq_true rfl) h_24 dX9_isAhead_24 ?_
    refine j_icmp_le (tgt := 34) (pc := 27) g dX9_isAhead_27 (by decide) (fun c_27 => ?_) (fun c_27 => ?_)
    · have hf := gx_it c_27 hf
      refine j_iconst (v := 0) (pc := 34) g dX9_isAhead_34 (by decide) ?_
      exact hE _ _ _ hf dX9_isAhead_35 rfl
    · have hf := gx_if c_27 hf
      refine j_iconst (v := 1) (pc := 30) g dX9_isAhead_30 (by decide) ?_
      refine j_goto (tgt := 35) (pc := 31) g dX9_isAhead_31 (by decide) ?_
      exact hE _ _ _ hf dX9_isAhead_35 rfl
theorem m9c_X9_isAhead {D : va_G} {t : Nat → ClassId} {E : gx_E} {l : Launch} {R : Room} {cc : ByteArray} {nL : Nat} {J : gx_J} {ad : Nat → Nat} {rs : va_W} {k n pc : Nat} {L : List (Nat × Value)} {rest : List Value} (g : gx_G D t E l R cc RX9 nL J) {σ : OS} {x0 : Int32} {x1 : Int32} {q : Int32} (hR : 1 + 1 ≤ R.frames ∧ 8 + (3 + 11) + 22 ≤ R.locals) (hkn : k ≤ R.cells ∧ n ≤ R.slots) (hcat : (rest.map fun v => v.category).sum ≤ 8) (hf : fX9_isAhead σ x0 x1 = some q) (hd : decode cc pc = .ok (.invokevirtual 164, 3)) (kk : J k n (mC ad t σ ++ rs) (pc + 3) L (.int q :: rest)) : J k n (mC ad t σ ++ rs) pc L (.int x1 :: .int x0 :: .ref (ad 0) :: rest) := j_callVi (na := 2) (As := [.int x0, .int x1]) (q0 := 0) (ci := 10) g (cX9_isAhead_  hf) q_i_X9_isAhead q_s_X9_isAhead rfl rfl rfl q_c_X9_isAhead q_l_X9_164 q_n_X9 (by decide +kernel) rfl hR hkn hcat (.refl _) (.refl _) hd kk rfl
set_option maxRecDepth 100000 in
set_option maxHeartbeats 4000000 in
theorem tX9_officerByRank_22 {D : va_G} {t : Nat → ClassId} {E : gx_E} {l : Launch} {J : gx_J} {ad : Nat → Nat} {rs : va_W} {k7 : OS → Int32 → Int32 → Option (Int32 × OS)} {q : (Int32 × OS)} (g : gx_G D t E l ({ frames := 2, cells := 0, slots := 0, locals := 44 }) cX9_officerByRank RX9 5 J) (hE : ∀ (v : Int32) (σ : OS) (pc : Nat) (L : List (Nat × Value)), some (v, σ) = some q → decode cX9_officerByRank pc = .ok (.ireturn, 1) → narrow .int (.int v) = .int v → J 0 0 (mC ad t σ ++ rs) pc L [.int v]) (hk7 : ∀ (σ : OS) (v1 : Int32) (v2 : Int32), k7 σ v1 v2 = some q → J 0 0 (mC ad t σ ++ rs) 7 [(0, .ref (ad 0)), (1, .int v1), (2, .int v2)] []) : ∀ (n : Nat) (σ : OS) (v1 : Int32) (v2 : Int32) (v3 : Int32) (v4 : Int32), fX9_officerByRank_22 k7 n σ v1 v2 v3 v4 = some q → J 0 0 (mC ad t σ ++ rs) 22 [(0, .ref (ad 0)), (1, .int v1), (2, .int v2), (3, .int v3), (4, .int v4)] [] := by
  intro n
  induction n with
  | zero => intro σ v1 v2 v3 v4 hf; cases hf
  | succ n ih =>
    intro σ v1 v2 v3 v4 hf
    replace hf := (fX9_officerByRank_22_s k7 n σ v1 v2 v3 v4).symm.trans hf
    refine j_iload (pc := 22) g 4 dX9_officerByRank_22 rfl ?_
    refine j_aload_n (pc := 24) g 0 dX9_officerByRank_24 rfl ?_
    refine m9g_1 (pc := 25) g dX9_officerByRank_25 ?_
    refine j_iconst (v := 0) (pc := 28) g dX9_officerByRank_28 (by decide) ?_
    obtain ⟨h_29, hf⟩ := gx_ck hf
    refine m9l_1 (pc := 29) g h_29 dX9_officerByRank_29 ?_
    refine j_icmp_ge (tgt := 74) (pc := 30) g dX9_officerByRank_30 (by decide) (fun c_30 => ?_) (fun c_30 => ?_)
    · have hf := gx_it c_30 hf
      refine j_aload_n (pc := 74) g 0 dX9_officerByRank_74 rfl ?_
      refine j_iload_n (pc := 75) g 2 dX9_officerByRank_75 rfl ?_
      refine j_iconst (v := 0) (pc := 76) g dX9_officerByRank_76 (by decide) ?_
      obtain ⟨r77, h_77, hf⟩ := gx_bs hf
      refine m9c_X9_of (pc := 77) g ⟨Nat.le_of_ble_eq_true rfl, Nat.le_of_ble_eq_true rfl⟩ ⟨Nat.zero_le _, Nat.zero_le _⟩ (Nat.le_of_ble_eq_true rfl) h_77 dX9_officerByRank_77 ?_
      refine j_iconst (v := 1) (pc := 80) g dX9_officerByRank_80 (by decide) ?_
      refine j_icmp_ne (tgt := 91) (pc := 81) g dX9_officerByRank_81 (by decide) (fun c_81 => ?_) (fun c_81 => ?_)
      · have hf := gx_if c_81 hf
        refine j_iinc (v := v2 + 1) (L' := [(2, .int (v2 + 1)), (0, .ref (ad 0)), (1, .int v1), (3, .int v3), (4, .int v4)]) (pc := 91) g 2 dX9_officerByRank_91 rfl rfl (Nat.le_of_ble_eq_true rfl) rfl ?_
        refine j_goto (tgt := 7) (pc := 94) g dX9_officerByRank_94 (by decide) ?_
        refine j_sub (pc := 7) g [1, 2, 0] rfl ?_
        exact hk7 σ v1 (v2 + 1) hf
      · have hf := gx_it c_81 hf
        refine j_iload_n (pc := 84) g 3 dX9_officerByRank_84 rfl ?_
        refine j_iload_n (pc := 85) g 1 dX9_officerByRank_85 rfl ?_
        refine j_icmp_ne (tgt := 91) (pc := 86) g dX9_officerByRank_86 (by decide) (fun c_86 => ?_) (fun c_86 => ?_)
        · have hf := gx_if c_86 hf
          refine j_iinc (v := v2 + 1) (L' := [(2, .int (v2 + 1)), (0, .ref (ad 0)), (1, .int v1), (3, .int v3), (4, .int v4)]) (pc := 91) g 2 dX9_officerByRank_91 rfl rfl (Nat.le_of_ble_eq_true rfl) rfl ?_
          refine j_goto (tgt := 7) (pc := 94) g dX9_officerByRank_94 (by decide) ?_
          refine j_sub (pc := 7) g [1, 2, 0] rfl ?_
          exact hk7 σ v1 (v2 + 1) hf
        · have hf := gx_it c_86 hf
          refine j_iload_n (pc := 89) g 2 dX9_officerByRank_89 rfl ?_
          exact hE _ _ _ _ hf dX9_officerByRank_90 rfl
    · have hf := gx_if c_30 hf
      refine j_iload_n (pc := 33) g 3 dX9_officerByRank_33 rfl ?_
      refine j_aload_n (pc := 34) g 0 dX9_officerByRank_34 rfl ?_
      refine j_iload (pc := 35) g 4 dX9_officerByRank_35 rfl ?_
      refine j_iconst (v := 0) (pc := 37) g dX9_officerByRank_37 (by decide) ?_
      obtain ⟨r38, h_38, hf⟩ := gx_bs hf
      refine m9c_X9_of (pc := 38) g ⟨Nat.le_of_ble_eq_true rfl, Nat.le_of_ble_eq_true rfl⟩ ⟨Nat.zero_le _, Nat.zero_le _⟩ (Nat.le_of_ble_eq_true rfl) h_38 dX9_officerByRank_38 ?_
      refine j_iconst (v := 1) (pc := 41) g dX9_officerByRank_41 (by decide) ?_
      refine j_icmp_ne (tgt := 65) (pc := 42) g dX9_officerByRank_42 (by decide) (fun c_42 => ?_) (fun c_42 => ?_)
      · have hf := gx_if c_42 hf
        refine j_iconst (v := 0) (pc := 65) g dX9_officerByRank_65 (by decide) ?_
        refine j_iadd (pc := 66) g dX9_officerByRank_66 ?_
        refine j_istore_n (L' := [(3, .int (v3 + (0 : Int32))), (0, .ref (ad 0)), (1, .int v1), (2, .int v2), (4, .int v4)]) (pc := 67) g dX9_officerByRank_67 rfl (Nat.le_of_ble_eq_true rfl) rfl ?_
        refine j_iinc (v := v4 + 1) (L' := [(4, .int (v4 + 1)), (3, .int (v3 + (0 : Int32))), (0, .ref (ad 0)), (1, .int v1), (2, .int v2)]) (pc := 68) g 4 dX9_officerByRank_68 rfl rfl (Nat.le_of_ble_eq_true rfl) rfl ?_
        refine j_goto (tgt := 22) (pc := 71) g dX9_officerByRank_71 (by decide) ?_
        refine j_sub (pc := 22) g [2, 3, 4, 1, 0] rfl ?_
        exact ih σ v1 v2 (v3 + (0 : Int32)) (v4 + 1) hf
      · have hf := gx_it c_42 hf
        refine j_iload (pc := 45) g 4 dX9_officerByRank_45 rfl ?_
        refine j_iload_n (pc := 47) g 2 dX9_officerByRank_47 rfl ?_
        refine j_icmp_eq (tgt := 65) (pc := 48) g dX9_officerByRank_48 (by decide) (fun c_48 => ?_) (fun c_48 => ?_)
        · have hf := gx_it c_48 hf
          refine j_iconst (v := 0) (pc := 65) g dX9_officerByRank_65 (by decide) ?_
          refine j_iadd (pc := 66) g dX9_officerByRank_66 ?_
          refine j_istore_n (L' := [(3, .int (v3 + (0 : Int32))), (0, .ref (ad 0)), (1, .int v1), (2, .int v2), (4, .int v4)]) (pc := 67) g dX9_officerByRank_67 rfl (Nat.le_of_ble_eq_true rfl) rfl ?_
          refine j_iinc (v := v4 + 1) (L' := [(4, .int (v4 + 1)), (3, .int (v3 + (0 : Int32))), (0, .ref (ad 0)), (1, .int v1), (2, .int v2)]) (pc := 68) g 4 dX9_officerByRank_68 rfl rfl (Nat.le_of_ble_eq_true rfl) rfl ?_
          refine j_goto (tgt := 22) (pc := 71) g dX9_officerByRank_71 (by decide) ?_
          refine j_sub (pc := 22) g [2, 3, 4, 1, 0] rfl ?_
          exact ih σ v1 v2 (v3 + (0 : Int32)) (v4 + 1) hf
        · have hf := gx_if c_48 hf
          refine j_aload_n (pc := 51) g 0 dX9_officerByRank_51 rfl ?_
          refine j_iload (pc := 52) g 4 dX9_officerByRank_52 rfl ?_
          refine j_iload_n (pc := 54) g 2 dX9_officerByRank_54 rfl ?_
          obtain ⟨r55, h_55, hf⟩ := gx_bs hf
          refine m9c_X9_isAhead (pc := 55) g ⟨Nat.le_of_ble_eq_true rfl, Nat.le_of_ble_eq_true rfl⟩ ⟨Nat.zero_le _, Nat.zero_le _⟩ (Nat.le_of_ble_eq_true rfl) h_55 dX9_officerByRank_55 ?_
          refine j_if_eq (tgt := 65) (pc := 58) g dX9_officerByRank_58 (by decide) (fun c_58 => ?_) (fun c_58 => ?_)
          · have hf := gx_it c_58 hf
            refine j_iconst (v := 0) (pc := 65) g dX9_officerByRank_65 (by decide) ?_
            refine j_iadd (pc := 66) g dX9_officerByRank_66 ?_
            refine j_istore_n (L' := [(3, .int (v3 + (0 : Int32))), (0, .ref (ad 0)), (1, .int v1), (2, .int v2), (4, .int v4)]) (pc := 67) g dX9_officerByRank_67 rfl (Nat.le_of_ble_eq_true rfl) rfl ?_
            refine j_iinc (v := v4 + 1) (L' := [(4, .int (v4 + 1)), (3, .int (v3 + (0 : Int32))), (0, .ref (ad 0)), (1, .int v1), (2, .int v2)]) (pc := 68) g 4 dX9_officerByRank_68 rfl rfl (Nat.le_of_ble_eq_true rfl) rfl ?_
            refine j_goto (tgt := 22) (pc := 71) g dX9_officerByRank_71 (by decide) ?_
            refine j_sub (pc := 22) g [2, 3, 4, 1, 0] rfl ?_
            exact ih σ v1 v2 (v3 + (0 : Int32)) (v4 + 1) hf
          · have hf := gx_if c_58 hf
            refine j_iconst (v := 1) (pc := 61) g dX9_officerByRank_61 (by decide) ?_
            refine j_goto (tgt := 66) (pc := 62) g dX9_officerByRank_62 (by decide) ?_
            refine j_iadd (pc := 66) g dX9_officerByRank_66 ?_
            refine j_istore_n (L' := [(3, .int (v3 + (1 : Int32))), (0, .ref (ad 0)), (1, .int v1), (2, .int v2), (4, .int v4)]) (pc := 67) g dX9_officerByRank_67 rfl (Nat.le_of_ble_eq_true rfl) rfl ?_
            refine j_iinc (v := v4 + 1) (L' := [(4, .int (v4 + 1)), (3, .int (v3 + (1 : Int32))), (0, .ref (ad 0)), (1, .int v1), (2, .int v2)]) (pc := 68) g 4 dX9_officerByRank_68 rfl rfl (Nat.le_of_ble_eq_true rfl) rfl ?_
            refine j_goto (tgt := 22) (pc := 71) g dX9_officerByRank_71 (by decide) ?_
            refine j_sub (pc := 22) g [2, 3, 4, 1, 0] rfl ?_
            exact ih σ v1 v2 (v3 + (1 : Int32)) (v4 + 1) hf
set_option maxRecDepth 100000 in
set_option maxHeartbeats 4000000 in
theorem tX9_officerByRank_7 {D : va_G} {t : Nat → ClassId} {E : gx_E} {l : Launch} {J : gx_J} {ad : Nat → Nat} {rs : va_W} {q : (Int32 × OS)} (g : gx_G D t E l ({ frames := 2, cells := 0, slots := 0, locals := 44 }) cX9_officerByRank RX9 5 J) (hE : ∀ (v : Int32) (σ : OS) (pc : Nat) (L : List (Nat × Value)), some (v, σ) = some q → decode cX9_officerByRank pc = .ok (.ireturn, 1) → narrow .int (.int v) = .int v → J 0 0 (mC ad t σ ++ rs) pc L [.int v])  : ∀ (n : Nat) (σ : OS) (v1 : Int32) (v2 : Int32), fX9_officerByRank_7 n σ v1 v2 = some q → J 0 0 (mC ad t σ ++ rs) 7 [(0, .ref (ad 0)), (1, .int v1), (2, .int v2)] [] := by
  intro n
  induction n with
  | zero => intro σ v1 v2 hf; cases hf
  | succ n ih =>
    intro σ v1 v2 hf
    replace hf := (fX9_officerByRank_7_s n σ v1 v2).symm.trans hf
    refine j_iload_n (pc := 7) g 2 dX9_officerByRank_7 rfl ?_
    refine j_aload_n (pc := 8) g 0 dX9_officerByRank_8 rfl ?_
    refine m9g_1 (pc := 9) g dX9_officerByRank_9 ?_
    refine j_iconst (v := 0) (pc := 12) g dX9_officerByRank_12 (by decide) ?_
    obtain ⟨h_13, hf⟩ := gx_ck hf
    refine m9l_1 (pc := 13) g h_13 dX9_officerByRank_13 ?_
    refine j_icmp_ge (tgt := 97) (pc := 14) g dX9_officerByRank_14 (by decide) (fun c_14 => ?_) (fun c_14 => ?_)
    · have hf := gx_it c_14 hf
      refine j_aload_n (pc := 97) g 0 dX9_officerByRank_97 rfl ?_
      refine j_iconst (v := 1) (pc := 98) g dX9_officerByRank_98 (by decide) ?_
      obtain ⟨r99, h_99, hf⟩ := gx_bs hf
      refine m9c_X9_fails (pc := 99) g ⟨Nat.le_of_ble_eq_true rfl, Nat.le_of_ble_eq_true rfl⟩ ⟨Nat.zero_le _, Nat.zero_le _⟩ (Nat.le_of_ble_eq_true rfl) h_99 dX9_officerByRank_99 ?_
      exact hE _ _ _ _ hf dX9_officerByRank_102 rfl
    · have hf := gx_if c_14 hf
      refine j_iconst (v := 0) (pc := 17) g dX9_officerByRank_17 (by decide) ?_
      refine j_istore_n (L' := [(3, .int (0 : Int32)), (0, .ref (ad 0)), (1, .int v1), (2, .int v2)]) (pc := 18) g dX9_officerByRank_18 rfl (Nat.le_of_ble_eq_true rfl) rfl ?_
      refine j_iconst (v := 0) (pc := 19) g dX9_officerByRank_19 (by decide) ?_
      refine j_istore (L' := [(4, .int (0 : Int32)), (3, .int (0 : Int32)), (0, .ref (ad 0)), (1, .int v1), (2, .int v2)]) (pc := 20) g dX9_officerByRank_20 (Nat.le_of_ble_eq_true rfl) rfl ?_
      refine j_sub (pc := 22) g [2, 3, 4, 1, 0] rfl ?_
      exact tX9_officerByRank_22 g hE ih 2000 σ v1 v2 (0 : Int32) (0 : Int32) hf
set_option maxRecDepth 100000 in
set_option maxHeartbeats 4000000 in
theorem cX9_officerByRank_ {D : va_G} {t : Nat → ClassId} {E : gx_E} {l : Launch} {ad : Nat → Nat} {rs : va_W} {σ : OS} {p1 : Int32} {q : (Int32 × OS)} (hf : fX9_officerByRank σ p1 = some q) : gx_C D t E l yX9_officerByRank cX9_officerByRank 5 (some .int) 2 44 [.ref (ad 0), .int p1] (mC ad t σ ++ rs) (mC ad t q.2 ++ rs) (some (.int q.1)) := by
  refine gx_intro_i (by decide) (Nat.le_of_ble_eq_true rfl) (fun J g hE0 => ?_)
  have hE : ∀ (v : Int32) (σ : OS) (pc : Nat) (L : List (Nat × Value)), some (v, σ) = some q → decode cX9_officerByRank pc = .ok (.ireturn, 1) → narrow .int (.int v) = .int v → J 0 0 (mC ad t σ ++ rs) pc L [.int v] := fun v σ pc L h h1 h2 => by cases h; exact hE0 pc L h1 h2
  unfold fX9_officerByRank at hf
  show J 0 0 (mC ad t σ ++ rs) 0 [(0, .ref (ad 0)), (1, .int p1)] []
  refine j_aload_n (pc := 0) g 0 dX9_officerByRank_0 rfl ?_
  refine j_iconst (v := 0) (pc := 1) g dX9_officerByRank_1 (by decide) ?_
  refine m9p_0 (pc := 2) g dX9_officerByRank_2 ?_
  refine j_iconst (v := 0) (pc := 5) g dX9_officerByRank_5 (by decide) ?_
  refine j_istore_n (L' := [(2, .int (0 : Int32)), (0, .ref (ad 0)), (1, .int p1)]) (pc := 6) g dX9_officerByRank_6 rfl (Nat.le_of_ble_eq_true rfl) rfl ?_
  refine j_sub (pc := 7) g [1, 2, 0] rfl ?_
  exact tX9_officerByRank_7 g hE 2000 (os_sf σ 0 (0 : Int32)) p1 (0 : Int32) hf

set_option maxRecDepth 100000 in
set_option maxHeartbeats 4000000 in
theorem cX9_isConsistent_ {D : va_G} {t : Nat → ClassId} {E : gx_E} {l : Launch} {ad : Nat → Nat} {rs : va_W} {σ : OS} {q : (Int32 × OS)} (hf : fX9_isConsistent σ = some q) : gx_C D t E l yX9_isConsistent cX9_isConsistent 1 (some .boolean) 0 0 [.ref (ad 0)] (mC ad t σ ++ rs) (mC ad t q.2 ++ rs) (some (.int q.1)) := by
  refine gx_intro_i (by decide) (Nat.le_of_ble_eq_true rfl) (fun J g hE0 => ?_)
  have hE : ∀ (v : Int32) (σ : OS) (pc : Nat) (L : List (Nat × Value)), some (v, σ) = some q → decode cX9_isConsistent pc = .ok (.ireturn, 1) → narrow .boolean (.int v) = .int v → J 0 0 (mC ad t σ ++ rs) pc L [.int v] := fun v σ pc L h h1 h2 => by cases h; exact hE0 pc L h1 h2
  unfold fX9_isConsistent at hf
  show J 0 0 (mC ad t σ ++ rs) 0 [(0, .ref (ad 0))] []
  refine j_aload_n (pc := 0) g 0 dX9_isConsistent_0 rfl ?_
  refine j_iconst (v := 0) (pc := 1) g dX9_isConsistent_1 (by decide) ?_
  refine m9p_0 (pc := 2) g dX9_isConsistent_2 ?_
  refine j_iconst (v := 1) (pc := 5) g dX9_isConsistent_5 (by decide) ?_
  exact hE _ _ _ _ hf dX9_isConsistent_6 rfl
theorem m9g_10 {D : va_G} {t : Nat → ClassId} {E : gx_E} {l : Launch} {R : Room} {cc : ByteArray} {nL : Nat} {J : gx_J} {ad : Nat → Nat} {rs : va_W} {k n pc : Nat} {L : List (Nat × Value)} {st : List Value} (g : gx_G D t E l R cc RX9 nL J) {σ : OS} (hd : decode cc pc = .ok (.getfield 167, 3)) (kk : J k n (mC ad t σ ++ rs) (pc + 3) L (.int (os_f σ 10) :: st)) : J k n (mC ad t σ ++ rs) pc L (.ref (ad 0) :: st) := j_get g in_X9 0 rfl rfl 10 (by decide) q_f_X9_167 rfl rfl hd kk
theorem m9g_7 {D : va_G} {t : Nat → ClassId} {E : gx_E} {l : Launch} {R : Room} {cc : ByteArray} {nL : Nat} {J : gx_J} {ad : Nat → Nat} {rs : va_W} {k n pc : Nat} {L : List (Nat × Value)} {st : List Value} (g : gx_G D t E l R cc RX9 nL J) {σ : OS} (hd : decode cc pc = .ok (.getfield 22, 3)) (kk : J k n (mC ad t σ ++ rs) (pc + 3) L (.ref (ad 5) :: st)) : J k n (mC ad t σ ++ rs) pc L (.ref (ad 0) :: st) := j_get g in_X9 0 rfl rfl 7 (by decide) q_f_X9_22 rfl rfl hd kk
theorem m9s_7 {D : va_G} {t : Nat → ClassId} {E : gx_E} {l : Launch} {R : Room} {cc : ByteArray} {nL : Nat} {J : gx_J} {ad : Nat → Nat} {rs : va_W} {k n pc : Nat} {L : List (Nat × Value)} {st : List Value} (g : gx_G D t E l R cc RX9 nL J) {σ : OS} {i x : Int32} (hin : gx_in i 60) (hd : decode cc pc = .ok (.iastore, 1)) (kk : J k n (mC ad t (os_sa σ 7 i.toNatClampNeg x) ++ rs) (pc + 1) L st) : J k n (mC ad t σ ++ rs) pc L (.int x :: .int i :: .ref (ad 5) :: st) := j_iast (w' := mC ad t (os_sa σ 7 i.toNatClampNeg x) ++ rs) g 5 rfl hin rfl hd kk
theorem m9p_10 {D : va_G} {t : Nat → ClassId} {E : gx_E} {l : Launch} {R : Room} {cc : ByteArray} {nL : Nat} {J : gx_J} {ad : Nat → Nat} {rs : va_W} {k n pc : Nat} {L : List (Nat × Value)} {st : List Value} (g : gx_G D t E l R cc RX9 nL J) {σ : OS} {v : Int32} (hd : decode cc pc = .ok (.putfield 167, 3)) (kk : J k n (mC ad t (os_sf σ 10 v) ++ rs) (pc + 3) L st) : J k n (mC ad t σ ++ rs) pc L (.int v :: .ref (ad 0) :: st) := j_put (w' := mC ad t (os_sf σ 10 v) ++ rs) g in_X9 0 rfl rfl 10 (by decide) q_f_X9_167 rfl tyX9 tyX9_ok nmX9 rfl (ty := .int) (by decide +kernel) rfl rfl (Nat.le_of_ble_eq_true rfl) rfl hd kk
set_option maxRecDepth 100000 in
set_option maxHeartbeats 4000000 in
theorem cX9_feed_ {D : va_G} {t : Nat → ClassId} {E : gx_E} {l : Launch} {ad : Nat → Nat} {rs : va_W} {σ : OS} {p1 : Int32} {q : (Int32 × OS)} (hf : fX9_feed σ p1 = some q) : gx_C D t E l yX9_feed cX9_feed 2 (some .int) 0 0 [.ref (ad 0), .int p1] (mC ad t σ ++ rs) (mC ad t q.2 ++ rs) (some (.int q.1)) := by
  refine gx_intro_i (by decide) (Nat.le_of_ble_eq_true rfl) (fun J g hE0 => ?_)
  have hE : ∀ (v : Int32) (σ : OS) (pc : Nat) (L : List (Nat × Value)), some (v, σ) = some q → decode cX9_feed pc = .ok (.ireturn, 1) → narrow .int (.int v) = .int v → J 0 0 (mC ad t σ ++ rs) pc L [.int v] := fun v σ pc L h h1 h2 => by cases h; exact hE0 pc L h1 h2
  unfold fX9_feed at hf
  show J 0 0 (mC ad t σ ++ rs) 0 [(0, .ref (ad 0)), (1, .int p1)] []
  refine j_aload_n (pc := 0) g 0 dX9_feed_0 rfl ?_
  refine j_aload_n (pc := 1) g 0 dX9_feed_1 rfl ?_
  refine m9g_10 (pc := 2) g dX9_feed_2 ?_
  refine j_bipush (v := 60) (pc := 5) g dX9_feed_5 (by decide) ?_
  refine j_icmp_ne (tgt := 14) (pc := 7) g dX9_feed_7 (by decide) (fun c_7 => ?_) (fun c_7 => ?_)
  · have hf := gx_if c_7 hf
    refine j_iconst (v := 0) (pc := 14) g dX9_feed_14 (by decide) ?_
    refine m9p_0 (pc := 15) g dX9_feed_15 ?_
    refine j_aload_n (pc := 18) g 0 dX9_feed_18 rfl ?_
    refine m9g_0 (pc := 19) g dX9_feed_19 ?_
    refine j_if_le (tgt := 27) (pc := 22) g dX9_feed_22 (by decide) (fun c_22 => ?_) (fun c_22 => ?_)
    · have hf := gx_it c_22 hf
      refine j_aload_n (pc := 27) g 0 dX9_feed_27 rfl ?_
      refine m9g_7 (pc := 28) g dX9_feed_28 ?_
      refine j_aload_n (pc := 31) g 0 dX9_feed_31 rfl ?_
      refine m9g_10 (pc := 32) g dX9_feed_32 ?_
      refine j_iload_n (pc := 35) g 1 dX9_feed_35 rfl ?_
      obtain ⟨h_36, hf⟩ := gx_ck hf
      refine m9s_7 (pc := 36) g h_36 dX9_feed_36 ?_
      refine j_aload_n (pc := 37) g 0 dX9_feed_37 rfl ?_
      refine j_dup (pc := 38) g dX9_feed_38 rfl ?_
      refine m9g_10 (pc := 39) g dX9_feed_39 ?_
      refine j_iconst (v := 1) (pc := 42) g dX9_feed_42 (by decide) ?_
      refine j_iadd (pc := 43) g dX9_feed_43 ?_
      refine m9p_10 (pc := 44) g dX9_feed_44 ?_
      refine j_aload_n (pc := 47) g 0 dX9_feed_47 rfl ?_
      refine m9g_10 (pc := 48) g dX9_feed_48 ?_
      exact hE _ _ _ _ hf dX9_feed_51 rfl
    · have hf := gx_if c_22 hf
      refine j_iconst (v := 0) (pc := 25) g dX9_feed_25 (by decide) ?_
      exact hE _ _ _ _ hf dX9_feed_26 rfl
  · have hf := gx_it c_7 hf
    refine j_iconst (v := 1) (pc := 10) g dX9_feed_10 (by decide) ?_
    refine j_goto (tgt := 15) (pc := 11) g dX9_feed_11 (by decide) ?_
    refine m9p_0 (pc := 15) g dX9_feed_15 ?_
    refine j_aload_n (pc := 18) g 0 dX9_feed_18 rfl ?_
    refine m9g_0 (pc := 19) g dX9_feed_19 ?_
    refine j_if_le (tgt := 27) (pc := 22) g dX9_feed_22 (by decide) (fun c_22 => ?_) (fun c_22 => ?_)
    · have hf := gx_it c_22 hf
      refine j_aload_n (pc := 27) g 0 dX9_feed_27 rfl ?_
      refine m9g_7 (pc := 28) g dX9_feed_28 ?_
      refine j_aload_n (pc := 31) g 0 dX9_feed_31 rfl ?_
      refine m9g_10 (pc := 32) g dX9_feed_32 ?_
      refine j_iload_n (pc := 35) g 1 dX9_feed_35 rfl ?_
      obtain ⟨h_36, hf⟩ := gx_ck hf
      refine m9s_7 (pc := 36) g h_36 dX9_feed_36 ?_
      refine j_aload_n (pc := 37) g 0 dX9_feed_37 rfl ?_
      refine j_dup (pc := 38) g dX9_feed_38 rfl ?_
      refine m9g_10 (pc := 39) g dX9_feed_39 ?_
      refine j_iconst (v := 1) (pc := 42) g dX9_feed_42 (by decide) ?_
      refine j_iadd (pc := 43) g dX9_feed_43 ?_
      refine m9p_10 (pc := 44) g dX9_feed_44 ?_
      refine j_aload_n (pc := 47) g 0 dX9_feed_47 rfl ?_
      refine m9g_10 (pc := 48) g dX9_feed_48 ?_
      exact hE _ _ _ _ hf dX9_feed_51 rfl
    · have hf := gx_if c_22 hf
      refine j_iconst (v := 0) (pc := 25) g dX9_feed_25 (by decide) ?_
      exact hE _ _ _ _ hf dX9_feed_26 rfl
theorem m9g_15 {D : va_G} {t : Nat → ClassId} {E : gx_E} {l : Launch} {R : Room} {cc : ByteArray} {nL : Nat} {J : gx_J} {ad : Nat → Nat} {rs : va_W} {k n pc : Nat} {L : List (Nat × Value)} {st : List Value} (g : gx_G D t E l R cc RX9 nL J) {σ : OS} (hd : decode cc pc = .ok (.getfield 170, 3)) (kk : J k n (mC ad t σ ++ rs) (pc + 3) L (.int (os_f σ 15) :: st)) : J k n (mC ad t σ ++ rs) pc L (.ref (ad 0) :: st) := j_get g in_X9 0 rfl rfl 15 (by decide) q_f_X9_170 rfl rfl hd kk
theorem m9g_16 {D : va_G} {t : Nat → ClassId} {E : gx_E} {l : Launch} {R : Room} {cc : ByteArray} {nL : Nat} {J : gx_J} {ad : Nat → Nat} {rs : va_W} {k n pc : Nat} {L : List (Nat × Value)} {st : List Value} (g : gx_G D t E l R cc RX9 nL J) {σ : OS} (hd : decode cc pc = .ok (.getfield 173, 3)) (kk : J k n (mC ad t σ ++ rs) (pc + 3) L (.int (os_f σ 16) :: st)) : J k n (mC ad t σ ++ rs) pc L (.ref (ad 0) :: st) := j_get g in_X9 0 rfl rfl 16 (by decide) q_f_X9_173 rfl rfl hd kk
theorem m9l_7 {D : va_G} {t : Nat → ClassId} {E : gx_E} {l : Launch} {R : Room} {cc : ByteArray} {nL : Nat} {J : gx_J} {ad : Nat → Nat} {rs : va_W} {k n pc : Nat} {L : List (Nat × Value)} {st : List Value} (g : gx_G D t E l R cc RX9 nL J) {σ : OS} {i : Int32} (hin : gx_in i 60) (hd : decode cc pc = .ok (.iaload, 1)) (kk : J k n (mC ad t σ ++ rs) (pc + 1) L (.int (os_a σ 7 i.toNatClampNeg) :: st)) : J k n (mC ad t σ ++ rs) pc L (.int i :: .ref (ad 5) :: st) := j_iald g 5 rfl hin hd kk
set_option maxRecDepth 100000 in
set_option maxHeartbeats 4000000 in
theorem cX9_here_ {D : va_G} {t : Nat → ClassId} {E : gx_E} {l : Launch} {ad : Nat → Nat} {rs : va_W} {σ : OS} {p1 : Int32} {q : Int32} (hf : fX9_here σ p1 = some q) : gx_C D t E l yX9_here cX9_here 2 (some .int) 0 0 [.ref (ad 0), .int p1] (mC ad t σ ++ rs) (mC ad t σ ++ rs) (some (.int q)) := by
  refine gx_intro_i (by decide) (Nat.le_of_ble_eq_true rfl) (fun J g hE0 => ?_)
  have hE : ∀ (v : Int32) (pc : Nat) (L : List (Nat × Value)), some v = some q → decode cX9_here pc = .ok (.ireturn, 1) → narrow .int (.int v) = .int v → J 0 0 (mC ad t σ ++ rs) pc L [.int v] := fun v pc L h h1 h2 => by cases h; exact hE0 pc L h1 h2
  unfold fX9_here at hf
  show J 0 0 (mC ad t σ ++ rs) 0 [(0, .ref (ad 0)), (1, .int p1)] []
  refine j_aload_n (pc := 0) g 0 dX9_here_0 rfl ?_
  refine m9g_15 (pc := 1) g dX9_here_1 ?_
  refine j_iload_n (pc := 4) g 1 dX9_here_4 rfl ?_
  refine j_iadd (pc := 5) g dX9_here_5 ?_
  refine j_aload_n (pc := 6) g 0 dX9_here_6 rfl ?_
  refine m9g_16 (pc := 7) g dX9_here_7 ?_
  refine j_icmp_ge (tgt := 27) (pc := 10) g dX9_here_10 (by decide) (fun c_10 => ?_) (fun c_10 => ?_)
  · have hf := gx_it c_10 hf
    refine j_iconst (v := -1) (pc := 27) g dX9_here_27 (by decide) ?_
    exact hE _ _ _ hf dX9_here_28 rfl
  · have hf := gx_if c_10 hf
    refine j_aload_n (pc := 13) g 0 dX9_here_13 rfl ?_
    refine m9g_7 (pc := 14) g dX9_here_14 ?_
    refine j_aload_n (pc := 17) g 0 dX9_here_17 rfl ?_
    refine m9g_15 (pc := 18) g dX9_here_18 ?_
    refine j_iload_n (pc := 21) g 1 dX9_here_21 rfl ?_
    refine j_iadd (pc := 22) g dX9_here_22 ?_
    obtain ⟨h_23, hf⟩ := gx_ck hf
    refine m9l_7 (pc := 23) g h_23 dX9_here_23 ?_
    refine j_goto (tgt := 28) (pc := 24) g dX9_here_24 (by decide) ?_
    exact hE _ _ _ hf dX9_here_28 rfl
theorem m9g_18 {D : va_G} {t : Nat → ClassId} {E : gx_E} {l : Launch} {R : Room} {cc : ByteArray} {nL : Nat} {J : gx_J} {ad : Nat → Nat} {rs : va_W} {k n pc : Nat} {L : List (Nat × Value)} {st : List Value} (g : gx_G D t E l R cc RX9 nL J) {σ : OS} (hd : decode cc pc = .ok (.getfield 181, 3)) (kk : J k n (mC ad t σ ++ rs) (pc + 3) L (.int (os_f σ 18) :: st)) : J k n (mC ad t σ ++ rs) pc L (.ref (ad 0) :: st) := j_get g in_X9 0 rfl rfl 18 (by decide) q_f_X9_181 rfl rfl hd kk
theorem m9p_18 {D : va_G} {t : Nat → ClassId} {E : gx_E} {l : Launch} {R : Room} {cc : ByteArray} {nL : Nat} {J : gx_J} {ad : Nat → Nat} {rs : va_W} {k n pc : Nat} {L : List (Nat × Value)} {st : List Value} (g : gx_G D t E l R cc RX9 nL J) {σ : OS} {v : Int32} (hn : v = 0 ∨ v = 1) (hd : decode cc pc = .ok (.putfield 181, 3)) (kk : J k n (mC ad t (os_sf σ 18 v) ++ rs) (pc + 3) L st) : J k n (mC ad t σ ++ rs) pc L (.int v :: .ref (ad 0) :: st) := j_put (w' := mC ad t (os_sf σ 18 v) ++ rs) g in_X9 0 rfl rfl 18 (by decide) q_f_X9_181 rfl tyX9 tyX9_ok nmX9 rfl (ty := .boolean) (by decide +kernel) (gx_narZ hn) (gx_fitZ hn) (Nat.le_of_ble_eq_true rfl) rfl hd kk
theorem m9g_8 {D : va_G} {t : Nat → ClassId} {E : gx_E} {l : Launch} {R : Room} {cc : ByteArray} {nL : Nat} {J : gx_J} {ad : Nat → Nat} {rs : va_W} {k n pc : Nat} {L : List (Nat × Value)} {st : List Value} (g : gx_G D t E l R cc RX9 nL J) {σ : OS} (hd : decode cc pc = .ok (.getfield 25, 3)) (kk : J k n (mC ad t σ ++ rs) (pc + 3) L (.ref (ad 6) :: st)) : J k n (mC ad t σ ++ rs) pc L (.ref (ad 0) :: st) := j_get g in_X9 0 rfl rfl 8 (by decide) q_f_X9_25 rfl rfl hd kk
theorem m9g_17 {D : va_G} {t : Nat → ClassId} {E : gx_E} {l : Launch} {R : Room} {cc : ByteArray} {nL : Nat} {J : gx_J} {ad : Nat → Nat} {rs : va_W} {k n pc : Nat} {L : List (Nat × Value)} {st : List Value} (g : gx_G D t E l R cc RX9 nL J) {σ : OS} (hd : decode cc pc = .ok (.getfield 198, 3)) (kk : J k n (mC ad t σ ++ rs) (pc + 3) L (.int (os_f σ 17) :: st)) : J k n (mC ad t σ ++ rs) pc L (.ref (ad 0) :: st) := j_get g in_X9 0 rfl rfl 17 (by decide) q_f_X9_198 rfl rfl hd kk
theorem m9c_X9_here {D : va_G} {t : Nat → ClassId} {E : gx_E} {l : Launch} {R : Room} {cc : ByteArray} {nL : Nat} {J : gx_J} {ad : Nat → Nat} {rs : va_W} {k n pc : Nat} {L : List (Nat × Value)} {rest : List Value} (g : gx_G D t E l R cc RX9 nL J) {σ : OS} {x0 : Int32} {q : Int32} (hR : 0 + 1 ≤ R.frames ∧ 8 + (2 + 11) + 0 ≤ R.locals) (hkn : k ≤ R.cells ∧ n ≤ R.slots) (hcat : (rest.map fun v => v.category).sum ≤ 8) (hf : fX9_here σ x0 = some q) (hd : decode cc pc = .ok (.invokevirtual 185, 3)) (kk : J k n (mC ad t σ ++ rs) (pc + 3) L (.int q :: rest)) : J k n (mC ad t σ ++ rs) pc L (.int x0 :: .ref (ad 0) :: rest) := j_callVi (na := 1) (As := [.int x0]) (q0 := 0) (ci := 10) g (cX9_here_  hf) q_i_X9_here q_s_X9_here rfl rfl rfl q_c_X9_here q_l_X9_185 q_n_X9 (by decide +kernel) rfl hR hkn hcat (.refl _) (.refl _) hd kk rfl
theorem m9s_8 {D : va_G} {t : Nat → ClassId} {E : gx_E} {l : Launch} {R : Room} {cc : ByteArray} {nL : Nat} {J : gx_J} {ad : Nat → Nat} {rs : va_W} {k n pc : Nat} {L : List (Nat × Value)} {st : List Value} (g : gx_G D t E l R cc RX9 nL J) {σ : OS} {i x : Int32} (hin : gx_in i 240) (hd : decode cc pc = .ok (.iastore, 1)) (kk : J k n (mC ad t (os_sa σ 8 i.toNatClampNeg x) ++ rs) (pc + 1) L st) : J k n (mC ad t σ ++ rs) pc L (.int x :: .int i :: .ref (ad 6) :: st) := j_iast (w' := mC ad t (os_sa σ 8 i.toNatClampNeg x) ++ rs) g 6 rfl hin rfl hd kk
theorem m9p_15 {D : va_G} {t : Nat → ClassId} {E : gx_E} {l : Launch} {R : Room} {cc : ByteArray} {nL : Nat} {J : gx_J} {ad : Nat → Nat} {rs : va_W} {k n pc : Nat} {L : List (Nat × Value)} {st : List Value} (g : gx_G D t E l R cc RX9 nL J) {σ : OS} {v : Int32} (hd : decode cc pc = .ok (.putfield 170, 3)) (kk : J k n (mC ad t (os_sf σ 15 v) ++ rs) (pc + 3) L st) : J k n (mC ad t σ ++ rs) pc L (.int v :: .ref (ad 0) :: st) := j_put (w' := mC ad t (os_sf σ 15 v) ++ rs) g in_X9 0 rfl rfl 15 (by decide) q_f_X9_170 rfl tyX9 tyX9_ok nmX9 rfl (ty := .int) (by decide +kernel) rfl rfl (Nat.le_of_ble_eq_true rfl) rfl hd kk
set_option maxRecDepth 100000 in
set_option maxHeartbeats 4000000 in
theorem cX9_letter_ {D : va_G} {t : Nat → ClassId} {E : gx_E} {l : Launch} {ad : Nat → Nat} {rs : va_W} {σ : OS} {p1 : Int32} {q : OS} (hf : fX9_letter σ p1 = some q) : gx_C D t E l yX9_letter cX9_letter 2 none 1 22 [.ref (ad 0), .int p1] (mC ad t σ ++ rs) (mC ad t q ++ rs) none := by
  refine gx_intro_v (by decide) (Nat.le_of_ble_eq_true rfl) (fun J g hE0 => ?_)
  have hE : ∀ (σ : OS) (pc : Nat) (L : List (Nat × Value)), some σ = some q → decode cX9_letter pc = .ok (.return_, 1) → J 0 0 (mC ad t σ ++ rs) pc L [] := fun σ pc L h h1 => by cases h; exact hE0 pc L h1
  unfold fX9_letter at hf
  show J 0 0 (mC ad t σ ++ rs) 0 [(0, .ref (ad 0)), (1, .int p1)] []
  refine j_aload_n (pc := 0) g 0 dX9_letter_0 rfl ?_
  refine j_aload_n (pc := 1) g 0 dX9_letter_1 rfl ?_
  refine m9g_18 (pc := 2) g dX9_letter_2 ?_
  refine j_if_ne (tgt := 23) (pc := 5) g dX9_letter_5 (by decide) (fun c_5 => ?_) (fun c_5 => ?_)
  · have hf := gx_if c_5 hf
    refine j_iconst (v := 1) (pc := 23) g dX9_letter_23 (by decide) ?_
    refine j_goto (tgt := 28) (pc := 24) g dX9_letter_24 (by decide) ?_
    obtain ⟨h_28, hf⟩ := gx_ck hf
    refine m9p_18 (pc := 28) g h_28 dX9_letter_28 ?_
    refine j_aload_n (pc := 31) g 0 dX9_letter_31 rfl ?_
    refine m9g_8 (pc := 32) g dX9_letter_32 ?_
    refine j_iconst (v := 4) (pc := 35) g dX9_letter_35 (by decide) ?_
    refine j_aload_n (pc := 36) g 0 dX9_letter_36 rfl ?_
    refine m9g_17 (pc := 37) g dX9_letter_37 ?_
    refine j_imul (pc := 40) g dX9_letter_40 ?_
    refine j_iload_n (pc := 41) g 1 dX9_letter_41 rfl ?_
    refine j_iadd (pc := 42) g dX9_letter_42 ?_
    refine j_aload_n (pc := 43) g 0 dX9_letter_43 rfl ?_
    refine m9g_18 (pc := 44) g dX9_letter_44 ?_
    refine j_if_eq (tgt := 54) (pc := 47) g dX9_letter_47 (by decide) (fun c_47 => ?_) (fun c_47 => ?_)
    · have hf := gx_it c_47 hf
      refine j_aload_n (pc := 54) g 0 dX9_letter_54 rfl ?_
      refine j_iconst (v := 0) (pc := 55) g dX9_letter_55 (by decide) ?_
      obtain ⟨r56, h_56, hf⟩ := gx_bs hf
      refine m9c_X9_here (pc := 56) g ⟨Nat.le_of_ble_eq_true rfl, Nat.le_of_ble_eq_true rfl⟩ ⟨Nat.zero_le _, Nat.zero_le _⟩ (Nat.le_of_ble_eq_true rfl) h_56 dX9_letter_56 ?_
      obtain ⟨h_59, hf⟩ := gx_ck hf
      refine m9s_8 (pc := 59) g h_59 dX9_letter_59 ?_
      refine j_aload_n (pc := 60) g 0 dX9_letter_60 rfl ?_
      refine j_dup (pc := 61) g dX9_letter_61 rfl ?_
      refine m9g_15 (pc := 62) g dX9_letter_62 ?_
      refine j_aload_n (pc := 65) g 0 dX9_letter_65 rfl ?_
      refine m9g_18 (pc := 66) g dX9_letter_66 ?_
      refine j_if_eq (tgt := 76) (pc := 69) g dX9_letter_69 (by decide) (fun c_69 => ?_) (fun c_69 => ?_)
      · have hf := gx_it c_69 hf
        refine j_iconst (v := 1) (pc := 76) g dX9_letter_76 (by decide) ?_
        refine j_iadd (pc := 77) g dX9_letter_77 ?_
        refine m9p_15 (pc := 78) g dX9_letter_78 ?_
        exact hE _ _ _ hf dX9_letter_81
      · have hf := gx_if c_69 hf
        refine j_iconst (v := 0) (pc := 72) g dX9_letter_72 (by decide) ?_
        refine j_goto (tgt := 77) (pc := 73) g dX9_letter_73 (by decide) ?_
        refine j_iadd (pc := 77) g dX9_letter_77 ?_
        refine m9p_15 (pc := 78) g dX9_letter_78 ?_
        exact hE _ _ _ hf dX9_letter_81
    · have hf := gx_if c_47 hf
      refine j_iconst (v := 0) (pc := 50) g dX9_letter_50 (by decide) ?_
      refine j_goto (tgt := 59) (pc := 51) g dX9_letter_51 (by decide) ?_
      obtain ⟨h_59, hf⟩ := gx_ck hf
      refine m9s_8 (pc := 59) g h_59 dX9_letter_59 ?_
      refine j_aload_n (pc := 60) g 0 dX9_letter_60 rfl ?_
      refine j_dup (pc := 61) g dX9_letter_61 rfl ?_
      refine m9g_15 (pc := 62) g dX9_letter_62 ?_
      refine j_aload_n (pc := 65) g 0 dX9_letter_65 rfl ?_
      refine m9g_18 (pc := 66) g dX9_letter_66 ?_
      refine j_if_eq (tgt := 76) (pc := 69) g dX9_letter_69 (by decide) (fun c_69 => ?_) (fun c_69 => ?_)
      · have hf := gx_it c_69 hf
        refine j_iconst (v := 1) (pc := 76) g dX9_letter_76 (by decide) ?_
        refine j_iadd (pc := 77) g dX9_letter_77 ?_
        refine m9p_15 (pc := 78) g dX9_letter_78 ?_
        exact hE _ _ _ hf dX9_letter_81
      · have hf := gx_if c_69 hf
        refine j_iconst (v := 0) (pc := 72) g dX9_letter_72 (by decide) ?_
        refine j_goto (tgt := 77) (pc := 73) g dX9_letter_73 (by decide) ?_
        refine j_iadd (pc := 77) g dX9_letter_77 ?_
        refine m9p_15 (pc := 78) g dX9_letter_78 ?_
        exact hE _ _ _ hf dX9_letter_81
  · have hf := gx_it c_5 hf
    refine j_aload_n (pc := 8) g 0 dX9_letter_8 rfl ?_
    refine j_iconst (v := 0) (pc := 9) g dX9_letter_9 (by decide) ?_
    obtain ⟨r10, h_10, hf⟩ := gx_bs hf
    refine m9c_X9_here (pc := 10) g ⟨Nat.le_of_ble_eq_true rfl, Nat.le_of_ble_eq_true rfl⟩ ⟨Nat.zero_le _, Nat.zero_le _⟩ (Nat.le_of_ble_eq_true rfl) h_10 dX9_letter_10 ?_
    refine j_bipush (v := 97) (pc := 13) g dX9_letter_13 (by decide) ?_
    refine j_bipush (v := 122) (pc := 15) g dX9_letter_15 (by decide) ?_
    obtain ⟨r17, h_17, hf⟩ := gx_bs hf
    refine m9c_X9_in (pc := 17) g ⟨Nat.le_of_ble_eq_true rfl, Nat.le_of_ble_eq_true rfl⟩ ⟨Nat.zero_le _, Nat.zero_le _⟩ (Nat.le_of_ble_eq_true rfl) h_17 dX9_letter_17 ?_
    refine j_if_ne (tgt := 27) (pc := 20) g dX9_letter_20 (by decide) (fun c_20 => ?_) (fun c_20 => ?_)
    · have hf := gx_if c_20 hf
      refine j_iconst (v := 0) (pc := 27) g dX9_letter_27 (by decide) ?_
      obtain ⟨h_28, hf⟩ := gx_ck hf
      refine m9p_18 (pc := 28) g h_28 dX9_letter_28 ?_
      refine j_aload_n (pc := 31) g 0 dX9_letter_31 rfl ?_
      refine m9g_8 (pc := 32) g dX9_letter_32 ?_
      refine j_iconst (v := 4) (pc := 35) g dX9_letter_35 (by decide) ?_
      refine j_aload_n (pc := 36) g 0 dX9_letter_36 rfl ?_
      refine m9g_17 (pc := 37) g dX9_letter_37 ?_
      refine j_imul (pc := 40) g dX9_letter_40 ?_
      refine j_iload_n (pc := 41) g 1 dX9_letter_41 rfl ?_
      refine j_iadd (pc := 42) g dX9_letter_42 ?_
      refine j_aload_n (pc := 43) g 0 dX9_letter_43 rfl ?_
      refine m9g_18 (pc := 44) g dX9_letter_44 ?_
      refine j_if_eq (tgt := 54) (pc := 47) g dX9_letter_47 (by decide) (fun c_47 => ?_) (fun c_47 => ?_)
      · have hf := gx_it c_47 hf
        refine j_aload_n (pc := 54) g 0 dX9_letter_54 rfl ?_
        refine j_iconst (v := 0) (pc := 55) g dX9_letter_55 (by decide) ?_
        obtain ⟨r56, h_56, hf⟩ := gx_bs hf
        refine m9c_X9_here (pc := 56) g ⟨Nat.le_of_ble_eq_true rfl, Nat.le_of_ble_eq_true rfl⟩ ⟨Nat.zero_le _, Nat.zero_le _⟩ (Nat.le_of_ble_eq_true rfl) h_56 dX9_letter_56 ?_
        obtain ⟨h_59, hf⟩ := gx_ck hf
        refine m9s_8 (pc := 59) g h_59 dX9_letter_59 ?_
        refine j_aload_n (pc := 60) g 0 dX9_letter_60 rfl ?_
        refine j_dup (pc := 61) g dX9_letter_61 rfl ?_
        refine m9g_15 (pc := 62) g dX9_letter_62 ?_
        refine j_aload_n (pc := 65) g 0 dX9_letter_65 rfl ?_
        refine m9g_18 (pc := 66) g dX9_letter_66 ?_
        refine j_if_eq (tgt := 76) (pc := 69) g dX9_letter_69 (by decide) (fun c_69 => ?_) (fun c_69 => ?_)
        · have hf := gx_it c_69 hf
          refine j_iconst (v := 1) (pc := 76) g dX9_letter_76 (by decide) ?_
          refine j_iadd (pc := 77) g dX9_letter_77 ?_
          refine m9p_15 (pc := 78) g dX9_letter_78 ?_
          exact hE _ _ _ hf dX9_letter_81
        · have hf := gx_if c_69 hf
          refine j_iconst (v := 0) (pc := 72) g dX9_letter_72 (by decide) ?_
          refine j_goto (tgt := 77) (pc := 73) g dX9_letter_73 (by decide) ?_
          refine j_iadd (pc := 77) g dX9_letter_77 ?_
          refine m9p_15 (pc := 78) g dX9_letter_78 ?_
          exact hE _ _ _ hf dX9_letter_81
      · have hf := gx_if c_47 hf
        refine j_iconst (v := 0) (pc := 50) g dX9_letter_50 (by decide) ?_
        refine j_goto (tgt := 59) (pc := 51) g dX9_letter_51 (by decide) ?_
        obtain ⟨h_59, hf⟩ := gx_ck hf
        refine m9s_8 (pc := 59) g h_59 dX9_letter_59 ?_
        refine j_aload_n (pc := 60) g 0 dX9_letter_60 rfl ?_
        refine j_dup (pc := 61) g dX9_letter_61 rfl ?_
        refine m9g_15 (pc := 62) g dX9_letter_62 ?_
        refine j_aload_n (pc := 65) g 0 dX9_letter_65 rfl ?_
        refine m9g_18 (pc := 66) g dX9_letter_66 ?_
        refine j_if_eq (tgt := 76) (pc := 69) g dX9_letter_69 (by decide) (fun c_69 => ?_) (fun c_69 => ?_)
        · have hf := gx_it c_69 hf
          refine j_iconst (v := 1) (pc := 76) g dX9_letter_76 (by decide) ?_
          refine j_iadd (pc := 77) g dX9_letter_77 ?_
          refine m9p_15 (pc := 78) g dX9_letter_78 ?_
          exact hE _ _ _ hf dX9_letter_81
        · have hf := gx_if c_69 hf
          refine j_iconst (v := 0) (pc := 72) g dX9_letter_72 (by decide) ?_
          refine j_goto (tgt := 77) (pc := 73) g dX9_letter_73 (by decide) ?_
          refine j_iadd (pc := 77) g dX9_letter_77 ?_
          refine m9p_15 (pc := 78) g dX9_letter_78 ?_
          exact hE _ _ _ hf dX9_letter_81
    · have hf := gx_it c_20 hf
      refine j_iconst (v := 1) (pc := 23) g dX9_letter_23 (by decide) ?_
      refine j_goto (tgt := 28) (pc := 24) g dX9_letter_24 (by decide) ?_
      obtain ⟨h_28, hf⟩ := gx_ck hf
      refine m9p_18 (pc := 28) g h_28 dX9_letter_28 ?_
      refine j_aload_n (pc := 31) g 0 dX9_letter_31 rfl ?_
      refine m9g_8 (pc := 32) g dX9_letter_32 ?_
      refine j_iconst (v := 4) (pc := 35) g dX9_letter_35 (by decide) ?_
      refine j_aload_n (pc := 36) g 0 dX9_letter_36 rfl ?_
      refine m9g_17 (pc := 37) g dX9_letter_37 ?_
      refine j_imul (pc := 40) g dX9_letter_40 ?_
      refine j_iload_n (pc := 41) g 1 dX9_letter_41 rfl ?_
      refine j_iadd (pc := 42) g dX9_letter_42 ?_
      refine j_aload_n (pc := 43) g 0 dX9_letter_43 rfl ?_
      refine m9g_18 (pc := 44) g dX9_letter_44 ?_
      refine j_if_eq (tgt := 54) (pc := 47) g dX9_letter_47 (by decide) (fun c_47 => ?_) (fun c_47 => ?_)
      · have hf := gx_it c_47 hf
        refine j_aload_n (pc := 54) g 0 dX9_letter_54 rfl ?_
        refine j_iconst (v := 0) (pc := 55) g dX9_letter_55 (by decide) ?_
        obtain ⟨r56, h_56, hf⟩ := gx_bs hf
        refine m9c_X9_here (pc := 56) g ⟨Nat.le_of_ble_eq_true rfl, Nat.le_of_ble_eq_true rfl⟩ ⟨Nat.zero_le _, Nat.zero_le _⟩ (Nat.le_of_ble_eq_true rfl) h_56 dX9_letter_56 ?_
        obtain ⟨h_59, hf⟩ := gx_ck hf
        refine m9s_8 (pc := 59) g h_59 dX9_letter_59 ?_
        refine j_aload_n (pc := 60) g 0 dX9_letter_60 rfl ?_
        refine j_dup (pc := 61) g dX9_letter_61 rfl ?_
        refine m9g_15 (pc := 62) g dX9_letter_62 ?_
        refine j_aload_n (pc := 65) g 0 dX9_letter_65 rfl ?_
        refine m9g_18 (pc := 66) g dX9_letter_66 ?_
        refine j_if_eq (tgt := 76) (pc := 69) g dX9_letter_69 (by decide) (fun c_69 => ?_) (fun c_69 => ?_)
        · have hf := gx_it c_69 hf
          refine j_iconst (v := 1) (pc := 76) g dX9_letter_76 (by decide) ?_
          refine j_iadd (pc := 77) g dX9_letter_77 ?_
          refine m9p_15 (pc := 78) g dX9_letter_78 ?_
          exact hE _ _ _ hf dX9_letter_81
        · have hf := gx_if c_69 hf
          refine j_iconst (v := 0) (pc := 72) g dX9_letter_72 (by decide) ?_
          refine j_goto (tgt := 77) (pc := 73) g dX9_letter_73 (by decide) ?_
          refine j_iadd (pc := 77) g dX9_letter_77 ?_
          refine m9p_15 (pc := 78) g dX9_letter_78 ?_
          exact hE _ _ _ hf dX9_letter_81
      · have hf := gx_if c_47 hf
        refine j_iconst (v := 0) (pc := 50) g dX9_letter_50 (by decide) ?_
        refine j_goto (tgt := 59) (pc := 51) g dX9_letter_51 (by decide) ?_
        obtain ⟨h_59, hf⟩ := gx_ck hf
        refine m9s_8 (pc := 59) g h_59 dX9_letter_59 ?_
        refine j_aload_n (pc := 60) g 0 dX9_letter_60 rfl ?_
        refine j_dup (pc := 61) g dX9_letter_61 rfl ?_
        refine m9g_15 (pc := 62) g dX9_letter_62 ?_
        refine j_aload_n (pc := 65) g 0 dX9_letter_65 rfl ?_
        refine m9g_18 (pc := 66) g dX9_letter_66 ?_
        refine j_if_eq (tgt := 76) (pc := 69) g dX9_letter_69 (by decide) (fun c_69 => ?_) (fun c_69 => ?_)
        · have hf := gx_it c_69 hf
          refine j_iconst (v := 1) (pc := 76) g dX9_letter_76 (by decide) ?_
          refine j_iadd (pc := 77) g dX9_letter_77 ?_
          refine m9p_15 (pc := 78) g dX9_letter_78 ?_
          exact hE _ _ _ hf dX9_letter_81
        · have hf := gx_if c_69 hf
          refine j_iconst (v := 0) (pc := 72) g dX9_letter_72 (by decide) ?_
          refine j_goto (tgt := 77) (pc := 73) g dX9_letter_73 (by decide) ?_
          refine j_iadd (pc := 77) g dX9_letter_77 ?_
          refine m9p_15 (pc := 78) g dX9_letter_78 ?_
          exact hE _ _ _ hf dX9_letter_81
theorem m9l_8 {D : va_G} {t : Nat → ClassId} {E : gx_E} {l : Launch} {R : Room} {cc : ByteArray} {nL : Nat} {J : gx_J} {ad : Nat → Nat} {rs : va_W} {k n pc : Nat} {L : List (Nat × Value)} {st : List Value} (g : gx_G D t E l R cc RX9 nL J) {σ : OS} {i : Int32} (hin : gx_in i 240) (hd : decode cc pc = .ok (.iaload, 1)) (kk : J k n (mC ad t σ ++ rs) (pc + 1) L (.int (os_a σ 8 i.toNatClampNeg) :: st)) : J k n (mC ad t σ ++ rs) pc L (.int i :: .ref (ad 6) :: st) := j_iald g 6 rfl hin hd kk
set_option maxRecDepth 100000 in
set_option maxHeartbeats 4000000 in
theorem cX9_does_ {D : va_G} {t : Nat → ClassId} {E : gx_E} {l : Launch} {ad : Nat → Nat} {rs : va_W} {σ : OS} {p1 : Int32} {q : (Int32 × OS)} (hf : fX9_does σ p1 = some q) : gx_C D t E l yX9_does cX9_does 5 (some .int) 6 139 [.ref (ad 0), .int p1] (mC ad t σ ++ rs) (mC ad t q.2 ++ rs) (some (.int q.1)) := by
  refine gx_intro_i (by decide) (Nat.le_of_ble_eq_true rfl) (fun J g hE0 => ?_)
  have hE : ∀ (v : Int32) (σ : OS) (pc : Nat) (L : List (Nat × Value)), some (v, σ) = some q → decode cX9_does pc = .ok (.ireturn, 1) → narrow .int (.int v) = .int v → J 0 0 (mC ad t σ ++ rs) pc L [.int v] := fun v σ pc L h h1 h2 => by cases h; exact hE0 pc L h1 h2
  unfold fX9_does at hf
  show J 0 0 (mC ad t σ ++ rs) 0 [(0, .ref (ad 0)), (1, .int p1)] []
  refine j_aload_n (pc := 0) g 0 dX9_does_0 rfl ?_
  refine m9g_8 (pc := 1) g dX9_does_1 ?_
  refine j_iconst (v := 4) (pc := 4) g dX9_does_4 (by decide) ?_
  refine j_iload_n (pc := 5) g 1 dX9_does_5 rfl ?_
  refine j_imul (pc := 6) g dX9_does_6 ?_
  refine j_iconst (v := 1) (pc := 7) g dX9_does_7 (by decide) ?_
  refine j_iadd (pc := 8) g dX9_does_8 ?_
  obtain ⟨h_9, hf⟩ := gx_ck hf
  refine m9l_8 (pc := 9) g h_9 dX9_does_9 ?_
  refine j_istore_n (L' := [(2, .int (os_a σ 8 (((4 : Int32) * p1) + (1 : Int32)).toNatClampNeg)), (0, .ref (ad 0)), (1, .int p1)]) (pc := 10) g dX9_does_10 rfl (Nat.le_of_ble_eq_true rfl) rfl ?_
  refine j_aload_n (pc := 11) g 1 dX9_does_11 rfl ?_
  refine m9g_8 (pc := 12) g dX9_does_12 ?_
  refine j_iconst (v := 4) (pc := 15) g dX9_does_15 (by decide) ?_
  refine j_iload_n (pc := 16) g 2 dX9_does_16 rfl ?_
  refine j_imul (pc := 17) g dX9_does_17 ?_
  refine j_iconst (v := 2) (pc := 18) g dX9_does_18 (by decide) ?_
  refine j_iadd (pc := 19) g dX9_does_19 ?_
  obtain ⟨h_20, hf⟩ := gx_ck hf
  refine m9l_8 (pc := 20) g h_20 dX9_does_20 ?_
  refine j_istore_n (L' := [(3, .int (os_a σ 8 (((4 : Int32) * p1) + (2 : Int32)).toNatClampNeg)), (2, .int (os_a σ 8 (((4 : Int32) * p1) + (1 : Int32)).toNatClampNeg)), (0, .ref (ad 0)), (1, .int p1)]) (pc := 21) g dX9_does_21 rfl (Nat.le_of_ble_eq_true rfl) rfl ?_
  refine j_aload_n (pc := 22) g 2 dX9_does_22 rfl ?_
  refine m9g_8 (pc := 23) g dX9_does_23 ?_
  refine j_iconst (v := 4) (pc := 26) g dX9_does_26 (by decide) ?_
  refine j_iload_n (pc := 27) g 3 dX9_does_27 rfl ?_
  refine j_imul (pc := 28) g dX9_does_28 ?_
  refine j_iconst (v := 3) (pc := 29) g dX9_does_29 (by decide) ?_
  refine j_iadd (pc := 30) g dX9_does_30 ?_
  obtain ⟨h_31, hf⟩ := gx_ck hf
  refine m9l_8 (pc := 31) g h_31 dX9_does_31 ?_
  refine j_istore (L' := [(4, .int (os_a σ 8 (((4 : Int32) * p1) + (3 : Int32)).toNatClampNeg)), (3, .int (os_a σ 8 (((4 : Int32) * p1) + (2 : Int32)).toNatClampNeg)), (2, .int (os_a σ 8 (((4 : Int32) * p1) + (1 : Int32)).toNatClampNeg)), (0, .ref (ad 0)), (1, .int p1)]) (pc := 32) g dX9_does_32 (Nat.le_of_ble_eq_true rfl) rfl ?_
  refine j_aload_n (pc := 34) g 3 dX9_does_34 rfl ?_
  refine m9g_8 (pc := 35) g dX9_does_35 ?_
  refine j_iconst (v := 4) (pc := 38) g dX9_does_38 (by decide) ?_
  refine j_iload_n (pc := 39) g 4 dX9_does_39 rfl ?_
  refine j_imul (pc := 40) g dX9_does_40 ?_
  obtain ⟨h_41, hf⟩ := gx_ck hf
  refine m9l_8 (pc := 41) g h_41 dX9_does_41 ?_
  by_cases c_42_0 : (os_a σ 8 ((4 : Int32) * p1).toNatClampNeg) = 97
  · have hf := gx_it c_42_0 hf
    refine j_tableIn (tgt := 116) (pc := 42) g dX9_does_42 (by rw [c_42_0]; decide) (by rw [c_42_0]; decide) (by rw [c_42_0]; rfl) (by decide) ?_
    refine j_aload_n (pc := 116) g 3 dX9_does_116 rfl ?_
    refine j_iload_n (pc := 117) g 2 dX9_does_117 rfl ?_
    refine j_iload_n (pc := 118) g 1 dX9_does_118 rfl ?_
    refine j_iload (pc := 119) g 0 dX9_does_119 rfl ?_
    obtain ⟨r121, h_121, hf⟩ := gx_bs hf
    refine m9c_X9_adds (pc := 121) g ⟨Nat.le_of_ble_eq_true rfl, Nat.le_of_ble_eq_true rfl⟩ ⟨Nat.zero_le _, Nat.zero_le _⟩ (Nat.le_of_ble_eq_true rfl) h_121 dX9_does_121 ?_
    exact hE _ _ _ _ hf dX9_does_124 rfl
  · have hf := gx_if c_42_0 hf
    by_cases c_42_1 : (os_a σ 8 ((4 : Int32) * p1).toNatClampNeg) = 102
    · have hf := gx_it c_42_1 hf
      refine j_tableIn (tgt := 132) (pc := 42) g dX9_does_42 (by rw [c_42_1]; decide) (by rw [c_42_1]; decide) (by rw [c_42_1]; rfl) (by decide) ?_
      refine j_aload_n (pc := 132) g 3 dX9_does_132 rfl ?_
      refine j_iload_n (pc := 133) g 2 dX9_does_133 rfl ?_
      obtain ⟨r134, h_134, hf⟩ := gx_bs hf
      refine m9c_X9_fires (pc := 134) g ⟨Nat.le_of_ble_eq_true rfl, Nat.le_of_ble_eq_true rfl⟩ ⟨Nat.zero_le _, Nat.zero_le _⟩ (Nat.le_of_ble_eq_true rfl) h_134 dX9_does_134 ?_
      exact hE _ _ _ _ hf dX9_does_137 rfl
    · have hf := gx_if c_42_1 hf
      by_cases c_42_2 : (os_a σ 8 ((4 : Int32) * p1).toNatClampNeg) = 108
      · have hf := gx_it c_42_2 hf
        refine j_tableIn (tgt := 138) (pc := 42) g dX9_does_42 (by rw [c_42_2]; decide) (by rw [c_42_2]; decide) (by rw [c_42_2]; rfl) (by decide) ?_
        refine j_aload_n (pc := 138) g 3 dX9_does_138 rfl ?_
        refine j_iload_n (pc := 139) g 2 dX9_does_139 rfl ?_
        refine j_iload_n (pc := 140) g 1 dX9_does_140 rfl ?_
        refine j_iload (pc := 141) g 0 dX9_does_141 rfl ?_
        obtain ⟨r143, h_143, hf⟩ := gx_bs hf
        refine m9c_X9_signs (pc := 143) g ⟨Nat.le_of_ble_eq_true rfl, Nat.le_of_ble_eq_true rfl⟩ ⟨Nat.zero_le _, Nat.zero_le _⟩ (Nat.le_of_ble_eq_true rfl) h_143 dX9_does_143 ?_
        exact hE _ _ _ _ hf dX9_does_146 rfl
      · have hf := gx_if c_42_2 hf
        by_cases c_42_3 : (os_a σ 8 ((4 : Int32) * p1).toNatClampNeg) = 109
        · have hf := gx_it c_42_3 hf
          refine j_tableIn (tgt := 125) (pc := 42) g dX9_does_42 (by rw [c_42_3]; decide) (by rw [c_42_3]; decide) (by rw [c_42_3]; rfl) (by decide) ?_
          refine j_aload_n (pc := 125) g 3 dX9_does_125 rfl ?_
          refine j_iload_n (pc := 126) g 2 dX9_does_126 rfl ?_
          refine j_iload_n (pc := 127) g 1 dX9_does_127 rfl ?_
          obtain ⟨r128, h_128, hf⟩ := gx_bs hf
          refine m9c_X9_moves (pc := 128) g ⟨Nat.le_of_ble_eq_true rfl, Nat.le_of_ble_eq_true rfl⟩ ⟨Nat.zero_le _, Nat.zero_le _⟩ (Nat.le_of_ble_eq_true rfl) h_128 dX9_does_128 ?_
          exact hE _ _ _ _ hf dX9_does_131 rfl
        · have hf := gx_if c_42_3 hf
          by_cases c_42_4 : (os_a σ 8 ((4 : Int32) * p1).toNatClampNeg) = 111
          · have hf := gx_it c_42_4 hf
            refine j_tableIn (tgt := 147) (pc := 42) g dX9_does_42 (by rw [c_42_4]; decide) (by rw [c_42_4]; decide) (by rw [c_42_4]; rfl) (by decide) ?_
            refine j_aload_n (pc := 147) g 3 dX9_does_147 rfl ?_
            refine j_iload_n (pc := 148) g 2 dX9_does_148 rfl ?_
            refine j_iload_n (pc := 149) g 1 dX9_does_149 rfl ?_
            refine j_iload (pc := 150) g 0 dX9_does_150 rfl ?_
            obtain ⟨r152, h_152, hf⟩ := gx_bs hf
            refine m9c_X9_sends (pc := 152) g ⟨Nat.le_of_ble_eq_true rfl, Nat.le_of_ble_eq_true rfl⟩ ⟨Nat.zero_le _, Nat.zero_le _⟩ (Nat.le_of_ble_eq_true rfl) h_152 dX9_does_152 ?_
            exact hE _ _ _ _ hf dX9_does_155 rfl
          · have hf := gx_if c_42_4 hf
            by_cases hlo : (os_a σ 8 ((4 : Int32) * p1).toNatClampNeg).toInt < 97
            · refine j_tableOut (tgt := 156) (pc := 42) g dX9_does_42 (Or.inl hlo) (by decide) ?_
              refine j_aload_n (pc := 156) g 3 dX9_does_156 rfl ?_
              refine j_iload_n (pc := 157) g 2 dX9_does_157 rfl ?_
              obtain ⟨r158, h_158, hf⟩ := gx_bs hf
              refine m9c_X9_passes (pc := 158) g ⟨Nat.le_of_ble_eq_true rfl, Nat.le_of_ble_eq_true rfl⟩ ⟨Nat.zero_le _, Nat.zero_le _⟩ (Nat.le_of_ble_eq_true rfl) h_158 dX9_does_158 ?_
              exact hE _ _ _ _ hf dX9_does_161 rfl
            · by_cases hhi : 111 < (os_a σ 8 ((4 : Int32) * p1).toNatClampNeg).toInt
              · refine j_tableOut (tgt := 156) (pc := 42) g dX9_does_42 (Or.inr hhi) (by decide) ?_
                refine j_aload_n (pc := 156) g 3 dX9_does_156 rfl ?_
                refine j_iload_n (pc := 157) g 2 dX9_does_157 rfl ?_
                obtain ⟨r158, h_158, hf⟩ := gx_bs hf
                refine m9c_X9_passes (pc := 158) g ⟨Nat.le_of_ble_eq_true rfl, Nat.le_of_ble_eq_true rfl⟩ ⟨Nat.zero_le _, Nat.zero_le _⟩ (Nat.le_of_ble_eq_true rfl) h_158 dX9_does_158 ?_
                exact hE _ _ _ _ hf dX9_does_161 rfl
              · have n0 : True := trivial
                have m_97 := lv_neT c_42_0 (a := 97) rfl
                have m_102 := lv_neT c_42_1 (a := 102) rfl
                have m_108 := lv_neT c_42_2 (a := 108) rfl
                have m_109 := lv_neT c_42_3 (a := 109) rfl
                have m_111 := lv_neT c_42_4 (a := 111) rfl
                have hq := (by decide : ∀ j : Nat, j < 15 → (j = 0 ∨ j = 5 ∨ j = 11 ∨ j = 12 ∨ j = 14 ∨ (#[74, 114, 114, 114, 114, 90, 114, 114, 114, 114, 114, 96, 83, 114, 105] : Array Int)[j]? = some 114)) (((os_a σ 8 ((4 : Int32) * p1).toNatClampNeg).toInt - 97).toNat) (by omega)
                have ho : (#[74, 114, 114, 114, 114, 90, 114, 114, 114, 114, 114, 96, 83, 114, 105] : Array Int)[((os_a σ 8 ((4 : Int32) * p1).toNatClampNeg).toInt - 97).toNat]? = some 114 := by rcases hq with q | q | q | q | q | q; all_goals first | exact q | (exfalso; omega)
                refine j_tableIn (tgt := 156) (pc := 42) g dX9_does_42 hlo hhi ho (by decide) ?_
                refine j_aload_n (pc := 156) g 3 dX9_does_156 rfl ?_
                refine j_iload_n (pc := 157) g 2 dX9_does_157 rfl ?_
                obtain ⟨r158, h_158, hf⟩ := gx_bs hf
                refine m9c_X9_passes (pc := 158) g ⟨Nat.le_of_ble_eq_true rfl, Nat.le_of_ble_eq_true rfl⟩ ⟨Nat.zero_le _, Nat.zero_le _⟩ (Nat.le_of_ble_eq_true rfl) h_158 dX9_does_158 ?_
                exact hE _ _ _ _ hf dX9_does_161 rfl
theorem m9p_16 {D : va_G} {t : Nat → ClassId} {E : gx_E} {l : Launch} {R : Room} {cc : ByteArray} {nL : Nat} {J : gx_J} {ad : Nat → Nat} {rs : va_W} {k n pc : Nat} {L : List (Nat × Value)} {st : List Value} (g : gx_G D t E l R cc RX9 nL J) {σ : OS} {v : Int32} (hd : decode cc pc = .ok (.putfield 173, 3)) (kk : J k n (mC ad t (os_sf σ 16 v) ++ rs) (pc + 3) L st) : J k n (mC ad t σ ++ rs) pc L (.int v :: .ref (ad 0) :: st) := j_put (w' := mC ad t (os_sf σ 16 v) ++ rs) g in_X9 0 rfl rfl 16 (by decide) q_f_X9_173 rfl tyX9 tyX9_ok nmX9 rfl (ty := .int) (by decide +kernel) rfl rfl (Nat.le_of_ble_eq_true rfl) rfl hd kk
theorem m9p_17 {D : va_G} {t : Nat → ClassId} {E : gx_E} {l : Launch} {R : Room} {cc : ByteArray} {nL : Nat} {J : gx_J} {ad : Nat → Nat} {rs : va_W} {k n pc : Nat} {L : List (Nat × Value)} {st : List Value} (g : gx_G D t E l R cc RX9 nL J) {σ : OS} {v : Int32} (hd : decode cc pc = .ok (.putfield 198, 3)) (kk : J k n (mC ad t (os_sf σ 17 v) ++ rs) (pc + 3) L st) : J k n (mC ad t σ ++ rs) pc L (.int v :: .ref (ad 0) :: st) := j_put (w' := mC ad t (os_sf σ 17 v) ++ rs) g in_X9 0 rfl rfl 17 (by decide) q_f_X9_198 rfl tyX9 tyX9_ok nmX9 rfl (ty := .int) (by decide +kernel) rfl rfl (Nat.le_of_ble_eq_true rfl) rfl hd kk
theorem m9g_12 {D : va_G} {t : Nat → ClassId} {E : gx_E} {l : Launch} {R : Room} {cc : ByteArray} {nL : Nat} {J : gx_J} {ad : Nat → Nat} {rs : va_W} {k n pc : Nat} {L : List (Nat × Value)} {st : List Value} (g : gx_G D t E l R cc RX9 nL J) {σ : OS} (hd : decode cc pc = .ok (.getfield 31, 3)) (kk : J k n (mC ad t σ ++ rs) (pc + 3) L (.int (os_f σ 12) :: st)) : J k n (mC ad t σ ++ rs) pc L (.ref (ad 0) :: st) := j_get g in_X9 0 rfl rfl 12 (by decide) q_f_X9_31 rfl rfl hd kk
set_option maxRecDepth 100000 in
set_option maxHeartbeats 4000000 in
theorem cX9_errorPosition_ {D : va_G} {t : Nat → ClassId} {E : gx_E} {l : Launch} {ad : Nat → Nat} {rs : va_W} {σ : OS} {q : (Int32 × OS)} (hf : fX9_errorPosition σ = some q) : gx_C D t E l yX9_errorPosition cX9_errorPosition 1 (some .int) 1 21 [.ref (ad 0)] (mC ad t σ ++ rs) (mC ad t q.2 ++ rs) (some (.int q.1)) := by
  refine gx_intro_i (by decide) (Nat.le_of_ble_eq_true rfl) (fun J g hE0 => ?_)
  have hE : ∀ (v : Int32) (σ : OS) (pc : Nat) (L : List (Nat × Value)), some (v, σ) = some q → decode cX9_errorPosition pc = .ok (.ireturn, 1) → narrow .int (.int v) = .int v → J 0 0 (mC ad t σ ++ rs) pc L [.int v] := fun v σ pc L h h1 h2 => by cases h; exact hE0 pc L h1 h2
  unfold fX9_errorPosition at hf
  show J 0 0 (mC ad t σ ++ rs) 0 [(0, .ref (ad 0))] []
  refine j_aload_n (pc := 0) g 0 dX9_errorPosition_0 rfl ?_
  refine j_iconst (v := 0) (pc := 1) g dX9_errorPosition_1 (by decide) ?_
  refine m9p_0 (pc := 2) g dX9_errorPosition_2 ?_
  refine j_aload_n (pc := 5) g 0 dX9_errorPosition_5 rfl ?_
  refine m9g_12 (pc := 6) g dX9_errorPosition_6 ?_
  refine j_iconst (v := -1) (pc := 9) g dX9_errorPosition_9 (by decide) ?_
  refine j_icmp_ne (tgt := 21) (pc := 10) g dX9_errorPosition_10 (by decide) (fun c_10 => ?_) (fun c_10 => ?_)
  · have hf := gx_if c_10 hf
    refine j_aload_n (pc := 21) g 0 dX9_errorPosition_21 rfl ?_
    refine m9g_12 (pc := 22) g dX9_errorPosition_22 ?_
    exact hE _ _ _ _ hf dX9_errorPosition_25 rfl
  · have hf := gx_it c_10 hf
    refine j_aload_n (pc := 13) g 0 dX9_errorPosition_13 rfl ?_
    refine j_iconst (v := 1) (pc := 14) g dX9_errorPosition_14 (by decide) ?_
    obtain ⟨r15, h_15, hf⟩ := gx_bs hf
    refine m9c_X9_fails (pc := 15) g ⟨Nat.le_of_ble_eq_true rfl, Nat.le_of_ble_eq_true rfl⟩ ⟨Nat.zero_le _, Nat.zero_le _⟩ (Nat.le_of_ble_eq_true rfl) h_15 dX9_errorPosition_15 ?_
    refine j_goto (tgt := 25) (pc := 18) g dX9_errorPosition_18 (by decide) ?_
    exact hE _ _ _ _ hf dX9_errorPosition_25 rfl
theorem m9g_13 {D : va_G} {t : Nat → ClassId} {E : gx_E} {l : Launch} {R : Room} {cc : ByteArray} {nL : Nat} {J : gx_J} {ad : Nat → Nat} {rs : va_W} {k n pc : Nat} {L : List (Nat × Value)} {st : List Value} (g : gx_G D t E l R cc RX9 nL J) {σ : OS} (hd : decode cc pc = .ok (.getfield 35, 3)) (kk : J k n (mC ad t σ ++ rs) (pc + 3) L (.int (os_f σ 13) :: st)) : J k n (mC ad t σ ++ rs) pc L (.ref (ad 0) :: st) := j_get g in_X9 0 rfl rfl 13 (by decide) q_f_X9_35 rfl rfl hd kk
set_option maxRecDepth 100000 in
set_option maxHeartbeats 4000000 in
theorem cX9_failedCommand_ {D : va_G} {t : Nat → ClassId} {E : gx_E} {l : Launch} {ad : Nat → Nat} {rs : va_W} {σ : OS} {q : (Int32 × OS)} (hf : fX9_failedCommand σ = some q) : gx_C D t E l yX9_failedCommand cX9_failedCommand 1 (some .int) 1 21 [.ref (ad 0)] (mC ad t σ ++ rs) (mC ad t q.2 ++ rs) (some (.int q.1)) := by
  refine gx_intro_i (by decide) (Nat.le_of_ble_eq_true rfl) (fun J g hE0 => ?_)
  have hE : ∀ (v : Int32) (σ : OS) (pc : Nat) (L : List (Nat × Value)), some (v, σ) = some q → decode cX9_failedCommand pc = .ok (.ireturn, 1) → narrow .int (.int v) = .int v → J 0 0 (mC ad t σ ++ rs) pc L [.int v] := fun v σ pc L h h1 h2 => by cases h; exact hE0 pc L h1 h2
  unfold fX9_failedCommand at hf
  show J 0 0 (mC ad t σ ++ rs) 0 [(0, .ref (ad 0))] []
  refine j_aload_n (pc := 0) g 0 dX9_failedCommand_0 rfl ?_
  refine j_iconst (v := 0) (pc := 1) g dX9_failedCommand_1 (by decide) ?_
  refine m9p_0 (pc := 2) g dX9_failedCommand_2 ?_
  refine j_aload_n (pc := 5) g 0 dX9_failedCommand_5 rfl ?_
  refine m9g_13 (pc := 6) g dX9_failedCommand_6 ?_
  refine j_iconst (v := -1) (pc := 9) g dX9_failedCommand_9 (by decide) ?_
  refine j_icmp_ne (tgt := 21) (pc := 10) g dX9_failedCommand_10 (by decide) (fun c_10 => ?_) (fun c_10 => ?_)
  · have hf := gx_if c_10 hf
    refine j_aload_n (pc := 21) g 0 dX9_failedCommand_21 rfl ?_
    refine m9g_13 (pc := 22) g dX9_failedCommand_22 ?_
    exact hE _ _ _ _ hf dX9_failedCommand_25 rfl
  · have hf := gx_it c_10 hf
    refine j_aload_n (pc := 13) g 0 dX9_failedCommand_13 rfl ?_
    refine j_iconst (v := 1) (pc := 14) g dX9_failedCommand_14 (by decide) ?_
    obtain ⟨r15, h_15, hf⟩ := gx_bs hf
    refine m9c_X9_fails (pc := 15) g ⟨Nat.le_of_ble_eq_true rfl, Nat.le_of_ble_eq_true rfl⟩ ⟨Nat.zero_le _, Nat.zero_le _⟩ (Nat.le_of_ble_eq_true rfl) h_15 dX9_failedCommand_15 ?_
    refine j_goto (tgt := 25) (pc := 18) g dX9_failedCommand_18 (by decide) ?_
    exact hE _ _ _ _ hf dX9_failedCommand_25 rfl
theorem m9g_9 {D : va_G} {t : Nat → ClassId} {E : gx_E} {l : Launch} {R : Room} {cc : ByteArray} {nL : Nat} {J : gx_J} {ad : Nat → Nat} {rs : va_W} {k n pc : Nat} {L : List (Nat × Value)} {st : List Value} (g : gx_G D t E l R cc RX9 nL J) {σ : OS} (hd : decode cc pc = .ok (.getfield 28, 3)) (kk : J k n (mC ad t σ ++ rs) (pc + 3) L (.ref (ad 7) :: st)) : J k n (mC ad t σ ++ rs) pc L (.ref (ad 0) :: st) := j_get g in_X9 0 rfl rfl 9 (by decide) q_f_X9_28 rfl rfl hd kk
theorem m9g_11 {D : va_G} {t : Nat → ClassId} {E : gx_E} {l : Launch} {R : Room} {cc : ByteArray} {nL : Nat} {J : gx_J} {ad : Nat → Nat} {rs : va_W} {k n pc : Nat} {L : List (Nat × Value)} {st : List Value} (g : gx_G D t E l R cc RX9 nL J) {σ : OS} (hd : decode cc pc = .ok (.getfield 235, 3)) (kk : J k n (mC ad t σ ++ rs) (pc + 3) L (.int (os_f σ 11) :: st)) : J k n (mC ad t σ ++ rs) pc L (.ref (ad 0) :: st) := j_get g in_X9 0 rfl rfl 11 (by decide) q_f_X9_235 rfl rfl hd kk
theorem m9s_9 {D : va_G} {t : Nat → ClassId} {E : gx_E} {l : Launch} {R : Room} {cc : ByteArray} {nL : Nat} {J : gx_J} {ad : Nat → Nat} {rs : va_W} {k n pc : Nat} {L : List (Nat × Value)} {st : List Value} (g : gx_G D t E l R cc RX9 nL J) {σ : OS} {i x : Int32} (hin : gx_in i 80) (hd : decode cc pc = .ok (.iastore, 1)) (kk : J k n (mC ad t (os_sa σ 9 i.toNatClampNeg x) ++ rs) (pc + 1) L st) : J k n (mC ad t σ ++ rs) pc L (.int x :: .int i :: .ref (ad 7) :: st) := j_iast (w' := mC ad t (os_sa σ 9 i.toNatClampNeg x) ++ rs) g 7 rfl hin rfl hd kk
theorem m9p_11 {D : va_G} {t : Nat → ClassId} {E : gx_E} {l : Launch} {R : Room} {cc : ByteArray} {nL : Nat} {J : gx_J} {ad : Nat → Nat} {rs : va_W} {k n pc : Nat} {L : List (Nat × Value)} {st : List Value} (g : gx_G D t E l R cc RX9 nL J) {σ : OS} {v : Int32} (hd : decode cc pc = .ok (.putfield 235, 3)) (kk : J k n (mC ad t (os_sf σ 11 v) ++ rs) (pc + 3) L st) : J k n (mC ad t σ ++ rs) pc L (.int v :: .ref (ad 0) :: st) := j_put (w' := mC ad t (os_sf σ 11 v) ++ rs) g in_X9 0 rfl rfl 11 (by decide) q_f_X9_235 rfl tyX9 tyX9_ok nmX9 rfl (ty := .int) (by decide +kernel) rfl rfl (Nat.le_of_ble_eq_true rfl) rfl hd kk
set_option maxRecDepth 100000 in
set_option maxHeartbeats 4000000 in
theorem cX9_writes_ {D : va_G} {t : Nat → ClassId} {E : gx_E} {l : Launch} {ad : Nat → Nat} {rs : va_W} {σ : OS} {p1 : Int32} {q : OS} (hf : fX9_writes σ p1 = some q) : gx_C D t E l yX9_writes cX9_writes 2 none 0 0 [.ref (ad 0), .int p1] (mC ad t σ ++ rs) (mC ad t q ++ rs) none := by
  refine gx_intro_v (by decide) (Nat.le_of_ble_eq_true rfl) (fun J g hE0 => ?_)
  have hE : ∀ (σ : OS) (pc : Nat) (L : List (Nat × Value)), some σ = some q → decode cX9_writes pc = .ok (.return_, 1) → J 0 0 (mC ad t σ ++ rs) pc L [] := fun σ pc L h h1 => by cases h; exact hE0 pc L h1
  unfold fX9_writes at hf
  show J 0 0 (mC ad t σ ++ rs) 0 [(0, .ref (ad 0)), (1, .int p1)] []
  refine j_aload_n (pc := 0) g 0 dX9_writes_0 rfl ?_
  refine m9g_9 (pc := 1) g dX9_writes_1 ?_
  refine j_aload_n (pc := 4) g 0 dX9_writes_4 rfl ?_
  refine m9g_11 (pc := 5) g dX9_writes_5 ?_
  refine j_iload_n (pc := 8) g 1 dX9_writes_8 rfl ?_
  obtain ⟨h_9, hf⟩ := gx_ck hf
  refine m9s_9 (pc := 9) g h_9 dX9_writes_9 ?_
  refine j_aload_n (pc := 10) g 0 dX9_writes_10 rfl ?_
  refine j_dup (pc := 11) g dX9_writes_11 rfl ?_
  refine m9g_11 (pc := 12) g dX9_writes_12 ?_
  refine j_iconst (v := 1) (pc := 15) g dX9_writes_15 (by decide) ?_
  refine j_iadd (pc := 16) g dX9_writes_16 ?_
  refine m9p_11 (pc := 17) g dX9_writes_17 ?_
  exact hE _ _ _ hf dX9_writes_20
theorem m9c_X9_writes {D : va_G} {t : Nat → ClassId} {E : gx_E} {l : Launch} {R : Room} {cc : ByteArray} {nL : Nat} {J : gx_J} {ad : Nat → Nat} {rs : va_W} {k n pc : Nat} {L : List (Nat × Value)} {rest : List Value} (g : gx_G D t E l R cc RX9 nL J) {σ : OS} {x0 : Int32} {q : OS} (hR : 0 + 1 ≤ R.frames ∧ 8 + (2 + 11) + 0 ≤ R.locals) (hkn : k ≤ R.cells ∧ n ≤ R.slots) (hcat : (rest.map fun v => v.category).sum ≤ 8) (hf : fX9_writes σ x0 = some q) (hd : decode cc pc = .ok (.invokevirtual 238, 3)) (kk : J k n (mC ad t q ++ rs) (pc + 3) L (rest)) : J k n (mC ad t σ ++ rs) pc L (.int x0 :: .ref (ad 0) :: rest) := j_callVv (na := 1) (As := [.int x0]) (q0 := 0) (ci := 10) g (cX9_writes_  hf) q_i_X9_writes q_s_X9_writes rfl rfl rfl q_c_X9_writes q_l_X9_238 q_n_X9 (by decide +kernel) rfl hR hkn hcat (.refl _) (.refl _) hd kk rfl
theorem m9r_X9_writesTree {D : va_G} {t : Nat → ClassId} {E : gx_E} {l : Launch} {R : Room} {cc : ByteArray} {nL : Nat} {J : gx_J} {ad : Nat → Nat} {rs : va_W} {k n pc : Nat} {L : List (Nat × Value)} {rest : List Value} (g : gx_G D t E l R cc RX9 nL J) {σ q : OS} {x0 : Int32} {fr lo : Nat} (hC : gx_C D t E l yX9_writesTree cX9_writesTree 4 none fr lo (.ref (ad 0) :: [.int x0]) (mC ad t σ ++ rs) (mC ad t q ++ rs) none) (hR : fr + 1 ≤ R.frames ∧ 8 + (4 + 11) + lo ≤ R.locals) (hkn : k ≤ R.cells ∧ n ≤ R.slots) (hcat : (rest.map fun v => v.category).sum ≤ 8) (hd : decode cc pc = .ok (.invokevirtual 241, 3)) (kk : J k n (mC ad t q ++ rs) (pc + 3) L rest) : J k n (mC ad t σ ++ rs) pc L (.int x0 :: .ref (ad 0) :: rest) := j_callVv (na := 1) (As := [.int x0]) (q0 := 0) (ci := 10) g hC q_i_X9_writesTree q_s_X9_writesTree rfl rfl rfl q_c_X9_writesTree q_l_X9_241 q_n_X9 (by decide +kernel) rfl hR hkn hcat (.refl _) (.refl _) hd kk rfl
set_option maxRecDepth 100000 in
set_option maxHeartbeats 4000000 in
theorem tX9_writesTree_32 {D : va_G} {t : Nat → ClassId} {E : gx_E} {l : Launch} {J : gx_J} {ad : Nat → Nat} {rs : va_W} {dd : Nat} {rec : OS → Int32 → Option OS} {q : OS} (g : gx_G D t E l ({ frames := dd + 1 + 1, cells := 0, slots := 0, locals := (dd + 1) * 23 + 22 }) cX9_writesTree RX9 4 J) (hE : ∀ (σ : OS) (pc : Nat) (L : List (Nat × Value)), some σ = some q → decode cX9_writesTree pc = .ok (.return_, 1) → J 0 0 (mC ad t σ ++ rs) pc L []) (hrec : ∀ {σ : OS} {p1 : Int32} {q : OS}, rec σ p1 = some q → gx_C D t E l yX9_writesTree cX9_writesTree 4 none (dd + 1) (dd * 23 + 22) [.ref (ad 0), .int p1] (mC ad t σ ++ rs) (mC ad t q ++ rs) none)  : ∀ (n : Nat) (σ : OS) (v1 : Int32) (v2 : Int32) (v3 : Int32), fX9_writesTree_32 rec n σ v1 v2 v3 = some q → J 0 0 (mC ad t σ ++ rs) 32 [(0, .ref (ad 0)), (1, .int v1), (2, .int v2), (3, .int v3)] [] := by
  intro n
  induction n with
  | zero => intro σ v1 v2 v3 hf; cases hf
  | succ n ih =>
    intro σ v1 v2 v3 hf
    replace hf := (fX9_writesTree_32_s rec n σ v1 v2 v3).symm.trans hf
    refine j_iload_n (pc := 32) g 3 dX9_writesTree_32 rfl ?_
    refine j_aload_n (pc := 33) g 0 dX9_writesTree_33 rfl ?_
    refine m9g_1 (pc := 34) g dX9_writesTree_34 ?_
    refine j_iconst (v := 0) (pc := 37) g dX9_writesTree_37 (by decide) ?_
    obtain ⟨h_38, hf⟩ := gx_ck hf
    refine m9l_1 (pc := 38) g h_38 dX9_writesTree_38 ?_
    refine j_icmp_ge (tgt := 92) (pc := 39) g dX9_writesTree_39 (by decide) (fun c_39 => ?_) (fun c_39 => ?_)
    · have hf := gx_it c_39 hf
      refine j_iload_n (pc := 92) g 2 dX9_writesTree_92 rfl ?_
      refine j_if_ne (tgt := 102) (pc := 93) g dX9_writesTree_93 (by decide) (fun c_93 => ?_) (fun c_93 => ?_)
      · have hf := gx_if c_93 hf
        exact hE _ _ _ hf dX9_writesTree_102
      · have hf := gx_it c_93 hf
        refine j_aload_n (pc := 96) g 0 dX9_writesTree_96 rfl ?_
        refine j_bipush (v := 41) (pc := 97) g dX9_writesTree_97 (by decide) ?_
        obtain ⟨r99, h_99, hf⟩ := gx_bs hf
        refine m9c_X9_writes (pc := 99) g ⟨Nat.le_of_ble_eq_true rfl, Nat.le_of_ble_eq_true rfl⟩ ⟨Nat.zero_le _, Nat.zero_le _⟩ (Nat.le_of_ble_eq_true rfl) h_99 dX9_writesTree_99 ?_
        exact hE _ _ _ hf dX9_writesTree_102
    · have hf := gx_if c_39 hf
      refine j_aload_n (pc := 42) g 0 dX9_writesTree_42 rfl ?_
      refine j_iload_n (pc := 43) g 3 dX9_writesTree_43 rfl ?_
      refine j_iconst (v := 0) (pc := 44) g dX9_writesTree_44 (by decide) ?_
      obtain ⟨r45, h_45, hf⟩ := gx_bs hf
      refine m9c_X9_of (pc := 45) g ⟨Nat.le_of_ble_eq_true rfl, Nat.le_of_ble_eq_true rfl⟩ ⟨Nat.zero_le _, Nat.zero_le _⟩ (Nat.le_of_ble_eq_true rfl) h_45 dX9_writesTree_45 ?_
      refine j_if_eq (tgt := 86) (pc := 48) g dX9_writesTree_48 (by decide) (fun c_48 => ?_) (fun c_48 => ?_)
      · have hf := gx_it c_48 hf
        refine j_iinc (v := v3 + 1) (L' := [(3, .int (v3 + 1)), (0, .ref (ad 0)), (1, .int v1), (2, .int v2)]) (pc := 86) g 3 dX9_writesTree_86 rfl rfl (Nat.le_of_ble_eq_true rfl) rfl ?_
        refine j_goto (tgt := 32) (pc := 89) g dX9_writesTree_89 (by decide) ?_
        refine j_sub (pc := 32) g [1, 2, 3, 0] rfl ?_
        exact ih σ v1 v2 (v3 + 1) hf
      · have hf := gx_if c_48 hf
        refine j_aload_n (pc := 51) g 0 dX9_writesTree_51 rfl ?_
        refine j_iload_n (pc := 52) g 3 dX9_writesTree_52 rfl ?_
        refine j_iconst (v := 4) (pc := 53) g dX9_writesTree_53 (by decide) ?_
        obtain ⟨r54, h_54, hf⟩ := gx_bs hf
        refine m9c_X9_of (pc := 54) g ⟨Nat.le_of_ble_eq_true rfl, Nat.le_of_ble_eq_true rfl⟩ ⟨Nat.zero_le _, Nat.zero_le _⟩ (Nat.le_of_ble_eq_true rfl) h_54 dX9_writesTree_54 ?_
        refine j_iload_n (pc := 57) g 1 dX9_writesTree_57 rfl ?_
        refine j_icmp_eq (tgt := 64) (pc := 58) g dX9_writesTree_58 (by decide) (fun c_58 => ?_) (fun c_58 => ?_)
        · have hf := gx_it c_58 hf
          refine j_aload_n (pc := 64) g 0 dX9_writesTree_64 rfl ?_
          refine j_iload_n (pc := 65) g 2 dX9_writesTree_65 rfl ?_
          refine j_if_eq (tgt := 74) (pc := 66) g dX9_writesTree_66 (by decide) (fun c_66 => ?_) (fun c_66 => ?_)
          · have hf := gx_it c_66 hf
            refine j_bipush (v := 44) (pc := 74) g dX9_writesTree_74 (by decide) ?_
            obtain ⟨r76, h_76, hf⟩ := gx_bs hf
            refine m9c_X9_writes (pc := 76) g ⟨Nat.le_of_ble_eq_true rfl, Nat.le_of_ble_eq_true rfl⟩ ⟨Nat.zero_le _, Nat.zero_le _⟩ (Nat.le_of_ble_eq_true rfl) h_76 dX9_writesTree_76 ?_
            refine j_iconst (v := 0) (pc := 79) g dX9_writesTree_79 (by decide) ?_
            refine j_istore_n (L' := [(2, .int (0 : Int32)), (0, .ref (ad 0)), (1, .int v1), (3, .int v3)]) (pc := 80) g dX9_writesTree_80 rfl (Nat.le_of_ble_eq_true rfl) rfl ?_
            refine j_aload_n (pc := 81) g 1 dX9_writesTree_81 rfl ?_
            refine j_iload_n (pc := 82) g 3 dX9_writesTree_82 rfl ?_
            obtain ⟨r83, h_83, hf⟩ := gx_bs hf
            refine m9r_X9_writesTree (pc := 83) g (hrec h_83) ⟨(by omega : _ + 1 + 1 ≤ _ + 1 + 1), (by omega : 8 + (4 + 11) + (_ * 23 + 22) ≤ (_ + 1) * 23 + 22)⟩ ⟨Nat.zero_le _, Nat.zero_le _⟩ (Nat.le_of_ble_eq_true rfl) dX9_writesTree_83 ?_
            refine j_iinc (v := v3 + 1) (L' := [(3, .int (v3 + 1)), (2, .int (0 : Int32)), (0, .ref (ad 0)), (1, .int v1)]) (pc := 86) g 3 dX9_writesTree_86 rfl rfl (Nat.le_of_ble_eq_true rfl) rfl ?_
            refine j_goto (tgt := 32) (pc := 89) g dX9_writesTree_89 (by decide) ?_
            refine j_sub (pc := 32) g [2, 3, 1, 0] rfl ?_
            exact ih r83 v1 (0 : Int32) (v3 + 1) hf
          · have hf := gx_if c_66 hf
            refine j_bipush (v := 40) (pc := 69) g dX9_writesTree_69 (by decide) ?_
            refine j_goto (tgt := 76) (pc := 71) g dX9_writesTree_71 (by decide) ?_
            obtain ⟨r76, h_76, hf⟩ := gx_bs hf
            refine m9c_X9_writes (pc := 76) g ⟨Nat.le_of_ble_eq_true rfl, Nat.le_of_ble_eq_true rfl⟩ ⟨Nat.zero_le _, Nat.zero_le _⟩ (Nat.le_of_ble_eq_true rfl) h_76 dX9_writesTree_76 ?_
            refine j_iconst (v := 0) (pc := 79) g dX9_writesTree_79 (by decide) ?_
            refine j_istore_n (L' := [(2, .int (0 : Int32)), (0, .ref (ad 0)), (1, .int v1), (3, .int v3)]) (pc := 80) g dX9_writesTree_80 rfl (Nat.le_of_ble_eq_true rfl) rfl ?_
            refine j_aload_n (pc := 81) g 1 dX9_writesTree_81 rfl ?_
            refine j_iload_n (pc := 82) g 3 dX9_writesTree_82 rfl ?_
            obtain ⟨r83, h_83, hf⟩ := gx_bs hf
            refine m9r_X9_writesTree (pc := 83) g (hrec h_83) ⟨(by omega : _ + 1 + 1 ≤ _ + 1 + 1), (by omega : 8 + (4 + 11) + (_ * 23 + 22) ≤ (_ + 1) * 23 + 22)⟩ ⟨Nat.zero_le _, Nat.zero_le _⟩ (Nat.le_of_ble_eq_true rfl) dX9_writesTree_83 ?_
            refine j_iinc (v := v3 + 1) (L' := [(3, .int (v3 + 1)), (2, .int (0 : Int32)), (0, .ref (ad 0)), (1, .int v1)]) (pc := 86) g 3 dX9_writesTree_86 rfl rfl (Nat.le_of_ble_eq_true rfl) rfl ?_
            refine j_goto (tgt := 32) (pc := 89) g dX9_writesTree_89 (by decide) ?_
            refine j_sub (pc := 32) g [2, 3, 1, 0] rfl ?_
            exact ih r83 v1 (0 : Int32) (v3 + 1) hf
        · have hf := gx_if c_58 hf
          refine j_goto (tgt := 86) (pc := 61) g dX9_writesTree_61 (by decide) ?_
          refine j_iinc (v := v3 + 1) (L' := [(3, .int (v3 + 1)), (0, .ref (ad 0)), (1, .int v1), (2, .int v2)]) (pc := 86) g 3 dX9_writesTree_86 rfl rfl (Nat.le_of_ble_eq_true rfl) rfl ?_
          refine j_goto (tgt := 32) (pc := 89) g dX9_writesTree_89 (by decide) ?_
          refine j_sub (pc := 32) g [1, 2, 3, 0] rfl ?_
          exact ih σ v1 v2 (v3 + 1) hf
set_option maxRecDepth 100000 in
set_option maxHeartbeats 4000000 in
theorem tX9_writesTree_17 {D : va_G} {t : Nat → ClassId} {E : gx_E} {l : Launch} {J : gx_J} {ad : Nat → Nat} {rs : va_W} {dd : Nat} {rec : OS → Int32 → Option OS} {q : OS} (g : gx_G D t E l ({ frames := dd + 1 + 1, cells := 0, slots := 0, locals := (dd + 1) * 23 + 22 }) cX9_writesTree RX9 4 J) (hE : ∀ (σ : OS) (pc : Nat) (L : List (Nat × Value)), some σ = some q → decode cX9_writesTree pc = .ok (.return_, 1) → J 0 0 (mC ad t σ ++ rs) pc L []) (hrec : ∀ {σ : OS} {p1 : Int32} {q : OS}, rec σ p1 = some q → gx_C D t E l yX9_writesTree cX9_writesTree 4 none (dd + 1) (dd * 23 + 22) [.ref (ad 0), .int p1] (mC ad t σ ++ rs) (mC ad t q ++ rs) none)  : ∀ (σ : OS) (v1 : Int32), fX9_writesTree_17 rec σ v1 = some q → J 0 0 (mC ad t σ ++ rs) 17 [(0, .ref (ad 0)), (1, .int v1)] [] := by
  intro σ v1 hf
  unfold fX9_writesTree_17 at hf
  refine j_aload_n (pc := 17) g 0 dX9_writesTree_17 rfl ?_
  refine j_bipush (v := 48) (pc := 18) g dX9_writesTree_18 (by decide) ?_
  refine j_iload_n (pc := 20) g 1 dX9_writesTree_20 rfl ?_
  refine j_bipush (v := 10) (pc := 21) g dX9_writesTree_21 (by decide) ?_
  refine j_irem (pc := 23) g dX9_writesTree_23 (by decide) ?_
  refine j_iadd (pc := 24) g dX9_writesTree_24 ?_
  obtain ⟨r25, h_25, hf⟩ := gx_bs hf
  refine m9c_X9_writes (pc := 25) g ⟨Nat.le_of_ble_eq_true rfl, Nat.le_of_ble_eq_true rfl⟩ ⟨Nat.zero_le _, Nat.zero_le _⟩ (Nat.le_of_ble_eq_true rfl) h_25 dX9_writesTree_25 ?_
  refine j_iconst (v := 1) (pc := 28) g dX9_writesTree_28 (by decide) ?_
  refine j_istore_n (L' := [(2, .int (1 : Int32)), (0, .ref (ad 0)), (1, .int v1)]) (pc := 29) g dX9_writesTree_29 rfl (Nat.le_of_ble_eq_true rfl) rfl ?_
  refine j_iconst (v := 0) (pc := 30) g dX9_writesTree_30 (by decide) ?_
  refine j_istore_n (L' := [(3, .int (0 : Int32)), (2, .int (1 : Int32)), (0, .ref (ad 0)), (1, .int v1)]) (pc := 31) g dX9_writesTree_31 rfl (Nat.le_of_ble_eq_true rfl) rfl ?_
  refine j_sub (pc := 32) g [2, 3, 1, 0] rfl ?_
  exact tX9_writesTree_32 g hE hrec 2000 r25 v1 (1 : Int32) (0 : Int32) hf
set_option maxRecDepth 100000 in
set_option maxHeartbeats 4000000 in
theorem cX9_writesTree_ {D : va_G} {t : Nat → ClassId} {E : gx_E} {l : Launch} {ad : Nat → Nat} {rs : va_W} : ∀ (d : Nat) {σ : OS} {p1 : Int32} {q : OS}, fX9_writesTree d σ p1 = some q → gx_C D t E l yX9_writesTree cX9_writesTree 4 none (d + 1) (d * 23 + 22) [.ref (ad 0), .int p1] (mC ad t σ ++ rs) (mC ad t q ++ rs) none := by
  intro d
  induction d with
  | zero => intro σ p1 q hf; cases hf
  | succ n ih =>
    intro σ p1 q hf
    replace hf := (fX9_writesTree_s n σ p1).symm.trans hf
    refine gx_intro_v (by decide) (Nat.le_of_ble_eq_true rfl) (fun J g hE0 => ?_)
    replace g : gx_G D t E l ({ frames := n + 1 + 1, cells := 0, slots := 0, locals := (n + 1) * 23 + 22 }) cX9_writesTree RX9 4 J := g
    have hE : ∀ (σ : OS) (pc : Nat) (L : List (Nat × Value)), some σ = some q → decode cX9_writesTree pc = .ok (.return_, 1) → J 0 0 (mC ad t σ ++ rs) pc L [] := fun σ pc L h h1 => by cases h; exact hE0 pc L h1
    show J 0 0 (mC ad t σ ++ rs) 0 [(0, .ref (ad 0)), (1, .int p1)] []
    refine j_iload_n (pc := 0) g 1 dX9_writesTree_0 rfl ?_
    refine j_bipush (v := 9) (pc := 1) g dX9_writesTree_1 (by decide) ?_
    refine j_icmp_le (tgt := 17) (pc := 3) g dX9_writesTree_3 (by decide) (fun c_3 => ?_) (fun c_3 => ?_)
    · have hf := gx_it c_3 hf
      refine j_sub (pc := 17) g [0, 1] rfl ?_
      exact tX9_writesTree_17 g hE ih σ p1 hf
    · have hf := gx_if c_3 hf
      refine j_aload_n (pc := 6) g 0 dX9_writesTree_6 rfl ?_
      refine j_bipush (v := 48) (pc := 7) g dX9_writesTree_7 (by decide) ?_
      refine j_iload_n (pc := 9) g 1 dX9_writesTree_9 rfl ?_
      refine j_bipush (v := 10) (pc := 10) g dX9_writesTree_10 (by decide) ?_
      refine j_idiv (pc := 12) g dX9_writesTree_12 (by decide) ?_
      refine j_iadd (pc := 13) g dX9_writesTree_13 ?_
      obtain ⟨r14, h_14, hf⟩ := gx_bs hf
      refine m9c_X9_writes (pc := 14) g ⟨Nat.le_of_ble_eq_true rfl, Nat.le_of_ble_eq_true rfl⟩ ⟨Nat.zero_le _, Nat.zero_le _⟩ (Nat.le_of_ble_eq_true rfl) h_14 dX9_writesTree_14 ?_
      refine j_sub (pc := 17) g [0, 1] rfl ?_
      exact tX9_writesTree_17 g hE ih r14 p1 hf
theorem m9c_X9_writesTree {D : va_G} {t : Nat → ClassId} {E : gx_E} {l : Launch} {R : Room} {cc : ByteArray} {nL : Nat} {J : gx_J} {ad : Nat → Nat} {rs : va_W} {k n pc : Nat} {L : List (Nat × Value)} {rest : List Value} (g : gx_G D t E l R cc RX9 nL J) {σ : OS} {x0 : Int32} {q : OS} (hR : 17 + 1 ≤ R.frames ∧ 8 + (4 + 11) + 390 ≤ R.locals) (hkn : k ≤ R.cells ∧ n ≤ R.slots) (hcat : (rest.map fun v => v.category).sum ≤ 8) (hf : fX9_writesTree 16 σ x0 = some q) (hd : decode cc pc = .ok (.invokevirtual 241, 3)) (kk : J k n (mC ad t q ++ rs) (pc + 3) L (rest)) : J k n (mC ad t σ ++ rs) pc L (.int x0 :: .ref (ad 0) :: rest) := j_callVv (na := 1) (As := [.int x0]) (q0 := 0) (ci := 10) g (cX9_writesTree_ 16 hf) q_i_X9_writesTree q_s_X9_writesTree rfl rfl rfl q_c_X9_writesTree q_l_X9_241 q_n_X9 (by decide +kernel) rfl hR hkn hcat (.refl _) (.refl _) hd kk rfl
set_option maxRecDepth 100000 in
set_option maxHeartbeats 4000000 in
theorem cX9_writeCommand_ {D : va_G} {t : Nat → ClassId} {E : gx_E} {l : Launch} {ad : Nat → Nat} {rs : va_W} {σ : OS} {p1 : Int32} {q : (Int32 × OS)} (hf : fX9_writeCommand σ p1 = some q) : gx_C D t E l yX9_writeCommand cX9_writeCommand 2 (some .int) 18 413 [.ref (ad 0), .int p1] (mC ad t σ ++ rs) (mC ad t q.2 ++ rs) (some (.int q.1)) := by
  refine gx_intro_i (by decide) (Nat.le_of_ble_eq_true rfl) (fun J g hE0 => ?_)
  have hE : ∀ (v : Int32) (σ : OS) (pc : Nat) (L : List (Nat × Value)), some (v, σ) = some q → decode cX9_writeCommand pc = .ok (.ireturn, 1) → narrow .int (.int v) = .int v → J 0 0 (mC ad t σ ++ rs) pc L [.int v] := fun v σ pc L h h1 h2 => by cases h; exact hE0 pc L h1 h2
  unfold fX9_writeCommand at hf
  show J 0 0 (mC ad t σ ++ rs) 0 [(0, .ref (ad 0)), (1, .int p1)] []
  refine j_aload_n (pc := 0) g 0 dX9_writeCommand_0 rfl ?_
  refine j_iload_n (pc := 1) g 1 dX9_writeCommand_1 rfl ?_
  obtain ⟨r2, h_2, hf⟩ := gx_bs hf
  refine m9c_X9_isAsked (pc := 2) g ⟨Nat.le_of_ble_eq_true rfl, Nat.le_of_ble_eq_true rfl⟩ ⟨Nat.zero_le _, Nat.zero_le _⟩ (Nat.le_of_ble_eq_true rfl) h_2 dX9_writeCommand_2 ?_
  refine j_if_ne (tgt := 10) (pc := 5) g dX9_writeCommand_5 (by decide) (fun c_5 => ?_) (fun c_5 => ?_)
  · have hf := gx_if c_5 hf
    refine j_aload_n (pc := 10) g 0 dX9_writeCommand_10 rfl ?_
    refine j_iconst (v := 0) (pc := 11) g dX9_writeCommand_11 (by decide) ?_
    refine m9p_11 (pc := 12) g dX9_writeCommand_12 ?_
    refine j_aload_n (pc := 15) g 0 dX9_writeCommand_15 rfl ?_
    refine j_iload_n (pc := 16) g 1 dX9_writeCommand_16 rfl ?_
    obtain ⟨r17, h_17, hf⟩ := gx_bs hf
    refine m9c_X9_writesTree (pc := 17) g ⟨Nat.le_of_ble_eq_true rfl, Nat.le_of_ble_eq_true rfl⟩ ⟨Nat.zero_le _, Nat.zero_le _⟩ (Nat.le_of_ble_eq_true rfl) h_17 dX9_writeCommand_17 ?_
    refine j_aload_n (pc := 20) g 0 dX9_writeCommand_20 rfl ?_
    refine m9g_11 (pc := 21) g dX9_writeCommand_21 ?_
    exact hE _ _ _ _ hf dX9_writeCommand_24 rfl
  · have hf := gx_it c_5 hf
    refine j_iconst (v := 0) (pc := 8) g dX9_writeCommand_8 (by decide) ?_
    exact hE _ _ _ _ hf dX9_writeCommand_9 rfl
theorem m9l_9 {D : va_G} {t : Nat → ClassId} {E : gx_E} {l : Launch} {R : Room} {cc : ByteArray} {nL : Nat} {J : gx_J} {ad : Nat → Nat} {rs : va_W} {k n pc : Nat} {L : List (Nat × Value)} {st : List Value} (g : gx_G D t E l R cc RX9 nL J) {σ : OS} {i : Int32} (hin : gx_in i 80) (hd : decode cc pc = .ok (.iaload, 1)) (kk : J k n (mC ad t σ ++ rs) (pc + 1) L (.int (os_a σ 9 i.toNatClampNeg) :: st)) : J k n (mC ad t σ ++ rs) pc L (.int i :: .ref (ad 7) :: st) := j_iald g 7 rfl hin hd kk
set_option maxRecDepth 100000 in
set_option maxHeartbeats 4000000 in
theorem cX9_outputChar_ {D : va_G} {t : Nat → ClassId} {E : gx_E} {l : Launch} {ad : Nat → Nat} {rs : va_W} {σ : OS} {p1 : Int32} {q : (Int32 × OS)} (hf : fX9_outputChar σ p1 = some q) : gx_C D t E l yX9_outputChar cX9_outputChar 2 (some .char) 1 22 [.ref (ad 0), .int p1] (mC ad t σ ++ rs) (mC ad t q.2 ++ rs) (some (.int q.1)) := by
  refine gx_intro_i (by decide) (Nat.le_of_ble_eq_true rfl) (fun J g hE0 => ?_)
  have hE : ∀ (v : Int32) (σ : OS) (pc : Nat) (L : List (Nat × Value)), some (v, σ) = some q → decode cX9_outputChar pc = .ok (.ireturn, 1) → narrow .char (.int v) = .int v → J 0 0 (mC ad t σ ++ rs) pc L [.int v] := fun v σ pc L h h1 h2 => by cases h; exact hE0 pc L h1 h2
  unfold fX9_outputChar at hf
  show J 0 0 (mC ad t σ ++ rs) 0 [(0, .ref (ad 0)), (1, .int p1)] []
  refine j_aload_n (pc := 0) g 0 dX9_outputChar_0 rfl ?_
  refine j_iload_n (pc := 1) g 1 dX9_outputChar_1 rfl ?_
  refine j_iconst (v := 0) (pc := 2) g dX9_outputChar_2 (by decide) ?_
  refine j_aload_n (pc := 3) g 0 dX9_outputChar_3 rfl ?_
  refine m9g_11 (pc := 4) g dX9_outputChar_4 ?_
  refine j_iconst (v := 1) (pc := 7) g dX9_outputChar_7 (by decide) ?_
  refine j_isub (pc := 8) g dX9_outputChar_8 ?_
  obtain ⟨r9, h_9, hf⟩ := gx_bs hf
  refine m9c_X9_in (pc := 9) g ⟨Nat.le_of_ble_eq_true rfl, Nat.le_of_ble_eq_true rfl⟩ ⟨Nat.zero_le _, Nat.zero_le _⟩ (Nat.le_of_ble_eq_true rfl) h_9 dX9_outputChar_9 ?_
  refine j_if_eq (tgt := 19) (pc := 12) g dX9_outputChar_12 (by decide) (fun c_12 => ?_) (fun c_12 => ?_)
  · have hf := gx_it c_12 hf
    refine j_iconst (v := 1) (pc := 19) g dX9_outputChar_19 (by decide) ?_
    refine m9p_0 (pc := 20) g dX9_outputChar_20 ?_
    refine j_aload_n (pc := 23) g 0 dX9_outputChar_23 rfl ?_
    refine m9g_0 (pc := 24) g dX9_outputChar_24 ?_
    refine j_if_le (tgt := 34) (pc := 27) g dX9_outputChar_27 (by decide) (fun c_27 => ?_) (fun c_27 => ?_)
    · have hf := gx_it c_27 hf
      refine j_aload_n (pc := 34) g 0 dX9_outputChar_34 rfl ?_
      refine m9g_9 (pc := 35) g dX9_outputChar_35 ?_
      refine j_iload_n (pc := 38) g 1 dX9_outputChar_38 rfl ?_
      obtain ⟨h_39, hf⟩ := gx_ck hf
      refine m9l_9 (pc := 39) g h_39 dX9_outputChar_39 ?_
      refine j_i2c (pc := 40) g dX9_outputChar_40 ?_
      obtain ⟨h_r, hf⟩ := gx_ck hf
      exact hE _ _ _ _ hf dX9_outputChar_41 (gx_narC h_r)
    · have hf := gx_if c_27 hf
      refine j_iconst (v := 0) (pc := 30) g dX9_outputChar_30 (by decide) ?_
      refine j_goto (tgt := 41) (pc := 31) g dX9_outputChar_31 (by decide) ?_
      exact hE _ _ _ _ hf dX9_outputChar_41 rfl
  · have hf := gx_if c_12 hf
    refine j_iconst (v := 0) (pc := 15) g dX9_outputChar_15 (by decide) ?_
    refine j_goto (tgt := 20) (pc := 16) g dX9_outputChar_16 (by decide) ?_
    refine m9p_0 (pc := 20) g dX9_outputChar_20 ?_
    refine j_aload_n (pc := 23) g 0 dX9_outputChar_23 rfl ?_
    refine m9g_0 (pc := 24) g dX9_outputChar_24 ?_
    refine j_if_le (tgt := 34) (pc := 27) g dX9_outputChar_27 (by decide) (fun c_27 => ?_) (fun c_27 => ?_)
    · have hf := gx_it c_27 hf
      refine j_aload_n (pc := 34) g 0 dX9_outputChar_34 rfl ?_
      refine m9g_9 (pc := 35) g dX9_outputChar_35 ?_
      refine j_iload_n (pc := 38) g 1 dX9_outputChar_38 rfl ?_
      obtain ⟨h_39, hf⟩ := gx_ck hf
      refine m9l_9 (pc := 39) g h_39 dX9_outputChar_39 ?_
      refine j_i2c (pc := 40) g dX9_outputChar_40 ?_
      obtain ⟨h_r, hf⟩ := gx_ck hf
      exact hE _ _ _ _ hf dX9_outputChar_41 (gx_narC h_r)
    · have hf := gx_if c_27 hf
      refine j_iconst (v := 0) (pc := 30) g dX9_outputChar_30 (by decide) ?_
      refine j_goto (tgt := 41) (pc := 31) g dX9_outputChar_31 (by decide) ?_
      exact hE _ _ _ _ hf dX9_outputChar_41 rfl

set_option maxRecDepth 100000 in
set_option maxHeartbeats 4000000 in
theorem cX9_undoCount_ {D : va_G} {t : Nat → ClassId} {E : gx_E} {l : Launch} {ad : Nat → Nat} {rs : va_W} {σ : OS} {q : (Int32 × OS)} (hf : fX9_undoCount σ = some q) : gx_C D t E l yX9_undoCount cX9_undoCount 1 (some .int) 0 0 [.ref (ad 0)] (mC ad t σ ++ rs) (mC ad t q.2 ++ rs) (some (.int q.1)) := by
  refine gx_intro_i (by decide) (Nat.le_of_ble_eq_true rfl) (fun J g hE0 => ?_)
  have hE : ∀ (v : Int32) (σ : OS) (pc : Nat) (L : List (Nat × Value)), some (v, σ) = some q → decode cX9_undoCount pc = .ok (.ireturn, 1) → narrow .int (.int v) = .int v → J 0 0 (mC ad t σ ++ rs) pc L [.int v] := fun v σ pc L h h1 h2 => by cases h; exact hE0 pc L h1 h2
  unfold fX9_undoCount at hf
  show J 0 0 (mC ad t σ ++ rs) 0 [(0, .ref (ad 0))] []
  refine j_aload_n (pc := 0) g 0 dX9_undoCount_0 rfl ?_
  refine j_iconst (v := 0) (pc := 1) g dX9_undoCount_1 (by decide) ?_
  refine m9p_0 (pc := 2) g dX9_undoCount_2 ?_
  refine j_aload_n (pc := 5) g 0 dX9_undoCount_5 rfl ?_
  refine m9g_5 (pc := 6) g dX9_undoCount_6 ?_
  exact hE _ _ _ _ hf dX9_undoCount_9 rfl

set_option maxRecDepth 100000 in
set_option maxHeartbeats 4000000 in
theorem tX9_undo_30 {D : va_G} {t : Nat → ClassId} {E : gx_E} {l : Launch} {J : gx_J} {ad : Nat → Nat} {rs : va_W} {q : (Int32 × OS)} (g : gx_G D t E l ({ frames := 1, cells := 0, slots := 0, locals := 21 }) cX9_undo RX9 2 J) (hE : ∀ (v : Int32) (σ : OS) (pc : Nat) (L : List (Nat × Value)), some (v, σ) = some q → decode cX9_undo pc = .ok (.ireturn, 1) → narrow .int (.int v) = .int v → J 0 0 (mC ad t σ ++ rs) pc L [.int v])  : ∀ (n : Nat) (σ : OS) (v1 : Int32), fX9_undo_30 n σ v1 = some q → J 0 0 (mC ad t σ ++ rs) 30 [(0, .ref (ad 0)), (1, .int v1)] [] := by
  intro n
  induction n with
  | zero => intro σ v1 hf; cases hf
  | succ n ih =>
    intro σ v1 hf
    replace hf := (fX9_undo_30_s n σ v1).symm.trans hf
    refine j_iload_n (pc := 30) g 1 dX9_undo_30 rfl ?_
    refine j_sipush (v := 131) (pc := 31) g dX9_undo_31 (by decide) ?_
    refine j_icmp_ge (tgt := 64) (pc := 34) g dX9_undo_34 (by decide) (fun c_34 => ?_) (fun c_34 => ?_)
    · have hf := gx_it c_34 hf
      refine j_aload_n (pc := 64) g 0 dX9_undo_64 rfl ?_
      refine m9g_5 (pc := 65) g dX9_undo_65 ?_
      exact hE _ _ _ _ hf dX9_undo_68 rfl
    · have hf := gx_if c_34 hf
      refine j_aload_n (pc := 37) g 0 dX9_undo_37 rfl ?_
      refine m9g_1 (pc := 38) g dX9_undo_38 ?_
      refine j_iload_n (pc := 41) g 1 dX9_undo_41 rfl ?_
      refine j_aload_n (pc := 42) g 0 dX9_undo_42 rfl ?_
      refine m9g_4 (pc := 43) g dX9_undo_43 ?_
      refine j_sipush (v := 131) (pc := 46) g dX9_undo_46 (by decide) ?_
      refine j_aload_n (pc := 49) g 0 dX9_undo_49 rfl ?_
      refine m9g_5 (pc := 50) g dX9_undo_50 ?_
      refine j_imul (pc := 53) g dX9_undo_53 ?_
      refine j_iload_n (pc := 54) g 1 dX9_undo_54 rfl ?_
      refine j_iadd (pc := 55) g dX9_undo_55 ?_
      obtain ⟨h_56, hf⟩ := gx_ck hf
      refine m9l_4 (pc := 56) g h_56 dX9_undo_56 ?_
      obtain ⟨h_57, hf⟩ := gx_ck hf
      refine m9s_1 (pc := 57) g h_57 dX9_undo_57 ?_
      refine j_iinc (v := v1 + 1) (L' := [(1, .int (v1 + 1)), (0, .ref (ad 0))]) (pc := 58) g 1 dX9_undo_58 rfl rfl (Nat.le_of_ble_eq_true rfl) rfl ?_
      refine j_goto (tgt := 30) (pc := 61) g dX9_undo_61 (by decide) ?_
      refine j_sub (pc := 30) g [1, 0] rfl ?_
      exact ih (os_sa σ 1 v1.toNatClampNeg (os_a σ 4 (((131 : Int32) * (os_f σ 5)) + v1).toNatClampNeg)) (v1 + 1) hf
set_option maxRecDepth 100000 in
set_option maxHeartbeats 4000000 in
theorem cX9_undo_ {D : va_G} {t : Nat → ClassId} {E : gx_E} {l : Launch} {ad : Nat → Nat} {rs : va_W} {σ : OS} {q : (Int32 × OS)} (hf : fX9_undo σ = some q) : gx_C D t E l yX9_undo cX9_undo 2 (some .int) 1 21 [.ref (ad 0)] (mC ad t σ ++ rs) (mC ad t q.2 ++ rs) (some (.int q.1)) := by
  refine gx_intro_i (by decide) (Nat.le_of_ble_eq_true rfl) (fun J g hE0 => ?_)
  have hE : ∀ (v : Int32) (σ : OS) (pc : Nat) (L : List (Nat × Value)), some (v, σ) = some q → decode cX9_undo pc = .ok (.ireturn, 1) → narrow .int (.int v) = .int v → J 0 0 (mC ad t σ ++ rs) pc L [.int v] := fun v σ pc L h h1 h2 => by cases h; exact hE0 pc L h1 h2
  unfold fX9_undo at hf
  show J 0 0 (mC ad t σ ++ rs) 0 [(0, .ref (ad 0))] []
  refine j_aload_n (pc := 0) g 0 dX9_undo_0 rfl ?_
  refine j_iconst (v := 0) (pc := 1) g dX9_undo_1 (by decide) ?_
  refine m9p_0 (pc := 2) g dX9_undo_2 ?_
  refine j_aload_n (pc := 5) g 0 dX9_undo_5 rfl ?_
  refine m9g_5 (pc := 6) g dX9_undo_6 ?_
  refine j_if_ne (tgt := 18) (pc := 9) g dX9_undo_9 (by decide) (fun c_9 => ?_) (fun c_9 => ?_)
  · have hf := gx_if c_9 hf
    refine j_aload_n (pc := 18) g 0 dX9_undo_18 rfl ?_
    refine j_dup (pc := 19) g dX9_undo_19 rfl ?_
    refine m9g_5 (pc := 20) g dX9_undo_20 ?_
    refine j_iconst (v := 1) (pc := 23) g dX9_undo_23 (by decide) ?_
    refine j_isub (pc := 24) g dX9_undo_24 ?_
    refine m9p_5 (pc := 25) g dX9_undo_25 ?_
    refine j_iconst (v := 0) (pc := 28) g dX9_undo_28 (by decide) ?_
    refine j_istore_n (L' := [(1, .int (0 : Int32)), (0, .ref (ad 0))]) (pc := 29) g dX9_undo_29 rfl (Nat.le_of_ble_eq_true rfl) rfl ?_
    refine j_sub (pc := 30) g [1, 0] rfl ?_
    exact tX9_undo_30 g hE 2000 (os_sf (os_sf σ 0 (0 : Int32)) 5 ((os_f (os_sf σ 0 (0 : Int32)) 5) - (1 : Int32))) (0 : Int32) hf
  · have hf := gx_it c_9 hf
    refine j_aload_n (pc := 12) g 0 dX9_undo_12 rfl ?_
    refine j_iconst (v := 1) (pc := 13) g dX9_undo_13 (by decide) ?_
    obtain ⟨r14, h_14, hf⟩ := gx_bs hf
    refine m9c_X9_fails (pc := 14) g ⟨Nat.le_of_ble_eq_true rfl, Nat.le_of_ble_eq_true rfl⟩ ⟨Nat.zero_le _, Nat.zero_le _⟩ (Nat.le_of_ble_eq_true rfl) h_14 dX9_undo_14 ?_
    exact hE _ _ _ _ hf dX9_undo_17 rfl
theorem m9p_6 {D : va_G} {t : Nat → ClassId} {E : gx_E} {l : Launch} {R : Room} {cc : ByteArray} {nL : Nat} {J : gx_J} {ad : Nat → Nat} {rs : va_W} {k n pc : Nat} {L : List (Nat × Value)} {st : List Value} (g : gx_G D t E l R cc RX9 nL J) {σ : OS} {v : Int32} (hn : v = 0 ∨ v = 1) (hd : decode cc pc = .ok (.putfield 244, 3)) (kk : J k n (mC ad t (os_sf σ 6 v) ++ rs) (pc + 3) L st) : J k n (mC ad t σ ++ rs) pc L (.int v :: .ref (ad 0) :: st) := j_put (w' := mC ad t (os_sf σ 6 v) ++ rs) g in_X9 0 rfl rfl 6 (by decide) q_f_X9_244 rfl tyX9 tyX9_ok nmX9 rfl (ty := .boolean) (by decide +kernel) (gx_narZ hn) (gx_fitZ hn) (Nat.le_of_ble_eq_true rfl) rfl hd kk
theorem m9g_3 {D : va_G} {t : Nat → ClassId} {E : gx_E} {l : Launch} {R : Room} {cc : ByteArray} {nL : Nat} {J : gx_J} {ad : Nat → Nat} {rs : va_W} {k n pc : Nat} {L : List (Nat × Value)} {st : List Value} (g : gx_G D t E l R cc RX9 nL J) {σ : OS} (hd : decode cc pc = .ok (.getfield 16, 3)) (kk : J k n (mC ad t σ ++ rs) (pc + 3) L (.ref (ad 3) :: st)) : J k n (mC ad t σ ++ rs) pc L (.ref (ad 0) :: st) := j_get g in_X9 0 rfl rfl 3 (by decide) q_f_X9_16 rfl rfl hd kk
theorem m9s_3 {D : va_G} {t : Nat → ClassId} {E : gx_E} {l : Launch} {R : Room} {cc : ByteArray} {nL : Nat} {J : gx_J} {ad : Nat → Nat} {rs : va_W} {k n pc : Nat} {L : List (Nat × Value)} {st : List Value} (g : gx_G D t E l R cc RX9 nL J) {σ : OS} {i x : Int32} (hin : gx_in i 131) (hd : decode cc pc = .ok (.iastore, 1)) (kk : J k n (mC ad t (os_sa σ 3 i.toNatClampNeg x) ++ rs) (pc + 1) L st) : J k n (mC ad t σ ++ rs) pc L (.int x :: .int i :: .ref (ad 3) :: st) := j_iast (w' := mC ad t (os_sa σ 3 i.toNatClampNeg x) ++ rs) g 3 rfl hin rfl hd kk
set_option maxRecDepth 100000 in
set_option maxHeartbeats 4000000 in
theorem tX9_save_7 {D : va_G} {t : Nat → ClassId} {E : gx_E} {l : Launch} {J : gx_J} {ad : Nat → Nat} {rs : va_W} {q : (Int32 × OS)} (g : gx_G D t E l ({ frames := 2, cells := 0, slots := 0, locals := 44 }) cX9_save RX9 2 J) (hE : ∀ (v : Int32) (σ : OS) (pc : Nat) (L : List (Nat × Value)), some (v, σ) = some q → decode cX9_save pc = .ok (.ireturn, 1) → narrow .int (.int v) = .int v → J 0 0 (mC ad t σ ++ rs) pc L [.int v])  : ∀ (n : Nat) (σ : OS) (v1 : Int32), fX9_save_7 n σ v1 = some q → J 0 0 (mC ad t σ ++ rs) 7 [(0, .ref (ad 0)), (1, .int v1)] [] := by
  intro n
  induction n with
  | zero => intro σ v1 hf; cases hf
  | succ n ih =>
    intro σ v1 hf
    replace hf := (fX9_save_7_s n σ v1).symm.trans hf
    refine j_iload_n (pc := 7) g 1 dX9_save_7 rfl ?_
    refine j_sipush (v := 131) (pc := 8) g dX9_save_8 (by decide) ?_
    refine j_icmp_ge (tgt := 32) (pc := 11) g dX9_save_11 (by decide) (fun c_11 => ?_) (fun c_11 => ?_)
    · have hf := gx_it c_11 hf
      refine j_aload_n (pc := 32) g 0 dX9_save_32 rfl ?_
      refine j_iconst (v := 1) (pc := 33) g dX9_save_33 (by decide) ?_
      obtain ⟨h_34, hf⟩ := gx_ck hf
      refine m9p_6 (pc := 34) g h_34 dX9_save_34 ?_
      refine j_aload_n (pc := 37) g 0 dX9_save_37 rfl ?_
      obtain ⟨r38, h_38, hf⟩ := gx_bs hf
      refine m9c_X9_many (pc := 38) g ⟨Nat.le_of_ble_eq_true rfl, Nat.le_of_ble_eq_true rfl⟩ ⟨Nat.zero_le _, Nat.zero_le _⟩ (Nat.le_of_ble_eq_true rfl) h_38 dX9_save_38 ?_
      exact hE _ _ _ _ hf dX9_save_41 rfl
    · have hf := gx_if c_11 hf
      refine j_aload_n (pc := 14) g 0 dX9_save_14 rfl ?_
      refine m9g_3 (pc := 15) g dX9_save_15 ?_
      refine j_iload_n (pc := 18) g 1 dX9_save_18 rfl ?_
      refine j_aload_n (pc := 19) g 0 dX9_save_19 rfl ?_
      refine m9g_1 (pc := 20) g dX9_save_20 ?_
      refine j_iload_n (pc := 23) g 1 dX9_save_23 rfl ?_
      obtain ⟨h_24, hf⟩ := gx_ck hf
      refine m9l_1 (pc := 24) g h_24 dX9_save_24 ?_
      obtain ⟨h_25, hf⟩ := gx_ck hf
      refine m9s_3 (pc := 25) g h_25 dX9_save_25 ?_
      refine j_iinc (v := v1 + 1) (L' := [(1, .int (v1 + 1)), (0, .ref (ad 0))]) (pc := 26) g 1 dX9_save_26 rfl rfl (Nat.le_of_ble_eq_true rfl) rfl ?_
      refine j_goto (tgt := 7) (pc := 29) g dX9_save_29 (by decide) ?_
      refine j_sub (pc := 7) g [1, 0] rfl ?_
      exact ih (os_sa σ 3 v1.toNatClampNeg (os_a σ 1 v1.toNatClampNeg)) (v1 + 1) hf
set_option maxRecDepth 100000 in
set_option maxHeartbeats 4000000 in
theorem cX9_save_ {D : va_G} {t : Nat → ClassId} {E : gx_E} {l : Launch} {ad : Nat → Nat} {rs : va_W} {σ : OS} {q : (Int32 × OS)} (hf : fX9_save σ = some q) : gx_C D t E l yX9_save cX9_save 2 (some .int) 2 44 [.ref (ad 0)] (mC ad t σ ++ rs) (mC ad t q.2 ++ rs) (some (.int q.1)) := by
  refine gx_intro_i (by decide) (Nat.le_of_ble_eq_true rfl) (fun J g hE0 => ?_)
  have hE : ∀ (v : Int32) (σ : OS) (pc : Nat) (L : List (Nat × Value)), some (v, σ) = some q → decode cX9_save pc = .ok (.ireturn, 1) → narrow .int (.int v) = .int v → J 0 0 (mC ad t σ ++ rs) pc L [.int v] := fun v σ pc L h h1 h2 => by cases h; exact hE0 pc L h1 h2
  unfold fX9_save at hf
  show J 0 0 (mC ad t σ ++ rs) 0 [(0, .ref (ad 0))] []
  refine j_aload_n (pc := 0) g 0 dX9_save_0 rfl ?_
  refine j_iconst (v := 0) (pc := 1) g dX9_save_1 (by decide) ?_
  refine m9p_0 (pc := 2) g dX9_save_2 ?_
  refine j_iconst (v := 0) (pc := 5) g dX9_save_5 (by decide) ?_
  refine j_istore_n (L' := [(1, .int (0 : Int32)), (0, .ref (ad 0))]) (pc := 6) g dX9_save_6 rfl (Nat.le_of_ble_eq_true rfl) rfl ?_
  refine j_sub (pc := 7) g [1, 0] rfl ?_
  exact tX9_save_7 g hE 2000 (os_sf σ 0 (0 : Int32)) (0 : Int32) hf
theorem m9g_6 {D : va_G} {t : Nat → ClassId} {E : gx_E} {l : Launch} {R : Room} {cc : ByteArray} {nL : Nat} {J : gx_J} {ad : Nat → Nat} {rs : va_W} {k n pc : Nat} {L : List (Nat × Value)} {st : List Value} (g : gx_G D t E l R cc RX9 nL J) {σ : OS} (hd : decode cc pc = .ok (.getfield 244, 3)) (kk : J k n (mC ad t σ ++ rs) (pc + 3) L (.int (os_f σ 6) :: st)) : J k n (mC ad t σ ++ rs) pc L (.ref (ad 0) :: st) := j_get g in_X9 0 rfl rfl 6 (by decide) q_f_X9_244 rfl rfl hd kk
theorem m9l_3 {D : va_G} {t : Nat → ClassId} {E : gx_E} {l : Launch} {R : Room} {cc : ByteArray} {nL : Nat} {J : gx_J} {ad : Nat → Nat} {rs : va_W} {k n pc : Nat} {L : List (Nat × Value)} {st : List Value} (g : gx_G D t E l R cc RX9 nL J) {σ : OS} {i : Int32} (hin : gx_in i 131) (hd : decode cc pc = .ok (.iaload, 1)) (kk : J k n (mC ad t σ ++ rs) (pc + 1) L (.int (os_a σ 3 i.toNatClampNeg) :: st)) : J k n (mC ad t σ ++ rs) pc L (.int i :: .ref (ad 3) :: st) := j_iald g 3 rfl hin hd kk
set_option maxRecDepth 100000 in
set_option maxHeartbeats 4000000 in
theorem tX9_restore_20 {D : va_G} {t : Nat → ClassId} {E : gx_E} {l : Launch} {J : gx_J} {ad : Nat → Nat} {rs : va_W} {q : (Int32 × OS)} (g : gx_G D t E l ({ frames := 2, cells := 0, slots := 0, locals := 44 }) cX9_restore RX9 2 J) (hE : ∀ (v : Int32) (σ : OS) (pc : Nat) (L : List (Nat × Value)), some (v, σ) = some q → decode cX9_restore pc = .ok (.ireturn, 1) → narrow .int (.int v) = .int v → J 0 0 (mC ad t σ ++ rs) pc L [.int v])  : ∀ (n : Nat) (σ : OS) (v1 : Int32), fX9_restore_20 n σ v1 = some q → J 0 0 (mC ad t σ ++ rs) 20 [(0, .ref (ad 0)), (1, .int v1)] [] := by
  intro n
  induction n with
  | zero => intro σ v1 hf; cases hf
  | succ n ih =>
    intro σ v1 hf
    replace hf := (fX9_restore_20_s n σ v1).symm.trans hf
    refine j_iload_n (pc := 20) g 1 dX9_restore_20 rfl ?_
    refine j_sipush (v := 131) (pc := 21) g dX9_restore_21 (by decide) ?_
    refine j_icmp_ge (tgt := 45) (pc := 24) g dX9_restore_24 (by decide) (fun c_24 => ?_) (fun c_24 => ?_)
    · have hf := gx_it c_24 hf
      refine j_aload_n (pc := 45) g 0 dX9_restore_45 rfl ?_
      refine j_iconst (v := 0) (pc := 46) g dX9_restore_46 (by decide) ?_
      refine m9p_5 (pc := 47) g dX9_restore_47 ?_
      refine j_aload_n (pc := 50) g 0 dX9_restore_50 rfl ?_
      obtain ⟨r51, h_51, hf⟩ := gx_bs hf
      refine m9c_X9_many (pc := 51) g ⟨Nat.le_of_ble_eq_true rfl, Nat.le_of_ble_eq_true rfl⟩ ⟨Nat.zero_le _, Nat.zero_le _⟩ (Nat.le_of_ble_eq_true rfl) h_51 dX9_restore_51 ?_
      exact hE _ _ _ _ hf dX9_restore_54 rfl
    · have hf := gx_if c_24 hf
      refine j_aload_n (pc := 27) g 0 dX9_restore_27 rfl ?_
      refine m9g_1 (pc := 28) g dX9_restore_28 ?_
      refine j_iload_n (pc := 31) g 1 dX9_restore_31 rfl ?_
      refine j_aload_n (pc := 32) g 0 dX9_restore_32 rfl ?_
      refine m9g_3 (pc := 33) g dX9_restore_33 ?_
      refine j_iload_n (pc := 36) g 1 dX9_restore_36 rfl ?_
      obtain ⟨h_37, hf⟩ := gx_ck hf
      refine m9l_3 (pc := 37) g h_37 dX9_restore_37 ?_
      obtain ⟨h_38, hf⟩ := gx_ck hf
      refine m9s_1 (pc := 38) g h_38 dX9_restore_38 ?_
      refine j_iinc (v := v1 + 1) (L' := [(1, .int (v1 + 1)), (0, .ref (ad 0))]) (pc := 39) g 1 dX9_restore_39 rfl rfl (Nat.le_of_ble_eq_true rfl) rfl ?_
      refine j_goto (tgt := 20) (pc := 42) g dX9_restore_42 (by decide) ?_
      refine j_sub (pc := 20) g [1, 0] rfl ?_
      exact ih (os_sa σ 1 v1.toNatClampNeg (os_a σ 3 v1.toNatClampNeg)) (v1 + 1) hf
set_option maxRecDepth 100000 in
set_option maxHeartbeats 4000000 in
theorem cX9_restore_ {D : va_G} {t : Nat → ClassId} {E : gx_E} {l : Launch} {ad : Nat → Nat} {rs : va_W} {σ : OS} {q : (Int32 × OS)} (hf : fX9_restore σ = some q) : gx_C D t E l yX9_restore cX9_restore 2 (some .int) 2 44 [.ref (ad 0)] (mC ad t σ ++ rs) (mC ad t q.2 ++ rs) (some (.int q.1)) := by
  refine gx_intro_i (by decide) (Nat.le_of_ble_eq_true rfl) (fun J g hE0 => ?_)
  have hE : ∀ (v : Int32) (σ : OS) (pc : Nat) (L : List (Nat × Value)), some (v, σ) = some q → decode cX9_restore pc = .ok (.ireturn, 1) → narrow .int (.int v) = .int v → J 0 0 (mC ad t σ ++ rs) pc L [.int v] := fun v σ pc L h h1 h2 => by cases h; exact hE0 pc L h1 h2
  unfold fX9_restore at hf
  show J 0 0 (mC ad t σ ++ rs) 0 [(0, .ref (ad 0))] []
  refine j_aload_n (pc := 0) g 0 dX9_restore_0 rfl ?_
  refine j_iconst (v := 0) (pc := 1) g dX9_restore_1 (by decide) ?_
  refine m9p_0 (pc := 2) g dX9_restore_2 ?_
  refine j_aload_n (pc := 5) g 0 dX9_restore_5 rfl ?_
  refine m9g_6 (pc := 6) g dX9_restore_6 ?_
  refine j_if_ne (tgt := 18) (pc := 9) g dX9_restore_9 (by decide) (fun c_9 => ?_) (fun c_9 => ?_)
  · have hf := gx_if c_9 hf
    refine j_iconst (v := 0) (pc := 18) g dX9_restore_18 (by decide) ?_
    refine j_istore_n (L' := [(1, .int (0 : Int32)), (0, .ref (ad 0))]) (pc := 19) g dX9_restore_19 rfl (Nat.le_of_ble_eq_true rfl) rfl ?_
    refine j_sub (pc := 20) g [1, 0] rfl ?_
    exact tX9_restore_20 g hE 2000 (os_sf σ 0 (0 : Int32)) (0 : Int32) hf
  · have hf := gx_it c_9 hf
    refine j_aload_n (pc := 12) g 0 dX9_restore_12 rfl ?_
    refine j_iconst (v := 1) (pc := 13) g dX9_restore_13 (by decide) ?_
    obtain ⟨r14, h_14, hf⟩ := gx_bs hf
    refine m9c_X9_fails (pc := 14) g ⟨Nat.le_of_ble_eq_true rfl, Nat.le_of_ble_eq_true rfl⟩ ⟨Nat.zero_le _, Nat.zero_le _⟩ (Nat.le_of_ble_eq_true rfl) h_14 dX9_restore_14 ?_
    exact hE _ _ _ _ hf dX9_restore_17 rfl
