theorem gBB_X0_1_0 {D : va_G} {t : Nat → ClassId} {aa : gx_AA} {l : Launch} {R : Room} {cc : ByteArray} {nL : Nat} {J : gx_J} {ad bd : Nat → Nat} {rs : va_W} {k n pc : Nat} {L : List (Nat × Value)} {st : List Value} (g : gx_G D t (gx_E0 aa) l R cc RX0 nL J) {σ : (OS × OS)} (hd : decode cc pc = .ok (.getfield 9, 3)) (kk : J k n (bC ad t σ.1 ++ (bC bd t σ.2 ++ rs)) (pc + 3) L (.ref (bd 1) :: st)) : J k n (bC ad t σ.1 ++ (bC bd t σ.2 ++ rs)) pc L (.ref (bd 0) :: st) := j_get g in_X0 3 rfl rfl 0 (by decide) q_f_X0_9 rfl rfl hd kk
theorem gBB_X0_0_0 {D : va_G} {t : Nat → ClassId} {aa : gx_AA} {l : Launch} {R : Room} {cc : ByteArray} {nL : Nat} {J : gx_J} {ad bd : Nat → Nat} {rs : va_W} {k n pc : Nat} {L : List (Nat × Value)} {st : List Value} (g : gx_G D t (gx_E0 aa) l R cc RX0 nL J) {σ : (OS × OS)} (hd : decode cc pc = .ok (.getfield 9, 3)) (kk : J k n (bC ad t σ.1 ++ (bC bd t σ.2 ++ rs)) (pc + 3) L (.ref (ad 1) :: st)) : J k n (bC ad t σ.1 ++ (bC bd t σ.2 ++ rs)) pc L (.ref (ad 0) :: st) := j_get g in_X0 0 rfl rfl 0 (by decide) q_f_X0_9 rfl rfl hd kk
theorem yBB_X0_1_0_0_0 {D : va_G} {t : Nat → ClassId} {aa : gx_AA} {l : Launch} {R : Room} {cc : ByteArray} {nL : Nat} {J : gx_J} {ad bd : Nat → Nat} {rs : va_W} {k n pc : Nat} {L : List (Nat × Value)} {st : List Value} (g : gx_G D t (gx_E0 aa) l R cc RX0 nL J) {σ : (OS × OS)} (hfr : 1 ≤ R.frames) (hlo : (st.map fun v => v.category).sum + (nativeFrameWords "java/lang/System" "arraycopy" 5 + 11) ≤ R.locals) (hd : decode cc pc = .ok (.invokestatic 18, 3)) (kk : J k n (bC ad t (os_cp σ.2 0 σ.1 0 20) ++ (bC bd t σ.2 ++ rs)) (pc + 3) L st) : J k n (bC ad t σ.1 ++ (bC bd t σ.2 ++ rs)) pc L (.int 20 :: .int 0 :: .ref (ad 1) :: .int 0 :: .ref (bd 1) :: st) := j_copyi (w' := bC ad t (os_cp σ.2 0 σ.1 0 20) ++ (bC bd t σ.2 ++ rs)) g q_l_X0_18 q_v_copy q_t_copy q_n_system 4 1 rfl rfl (by decide) (by decide) (by decide) (by decide) (by decide) hfr hlo rfl hd kk
theorem gBB_X0_1_1 {D : va_G} {t : Nat → ClassId} {aa : gx_AA} {l : Launch} {R : Room} {cc : ByteArray} {nL : Nat} {J : gx_J} {ad bd : Nat → Nat} {rs : va_W} {k n pc : Nat} {L : List (Nat × Value)} {st : List Value} (g : gx_G D t (gx_E0 aa) l R cc RX0 nL J) {σ : (OS × OS)} (hd : decode cc pc = .ok (.getfield 15, 3)) (kk : J k n (bC ad t σ.1 ++ (bC bd t σ.2 ++ rs)) (pc + 3) L (.ref (bd 2) :: st)) : J k n (bC ad t σ.1 ++ (bC bd t σ.2 ++ rs)) pc L (.ref (bd 0) :: st) := j_get g in_X0 3 rfl rfl 1 (by decide) q_f_X0_15 rfl rfl hd kk
theorem gBB_X0_0_1 {D : va_G} {t : Nat → ClassId} {aa : gx_AA} {l : Launch} {R : Room} {cc : ByteArray} {nL : Nat} {J : gx_J} {ad bd : Nat → Nat} {rs : va_W} {k n pc : Nat} {L : List (Nat × Value)} {st : List Value} (g : gx_G D t (gx_E0 aa) l R cc RX0 nL J) {σ : (OS × OS)} (hd : decode cc pc = .ok (.getfield 15, 3)) (kk : J k n (bC ad t σ.1 ++ (bC bd t σ.2 ++ rs)) (pc + 3) L (.ref (ad 2) :: st)) : J k n (bC ad t σ.1 ++ (bC bd t σ.2 ++ rs)) pc L (.ref (ad 0) :: st) := j_get g in_X0 0 rfl rfl 1 (by decide) q_f_X0_15 rfl rfl hd kk
theorem yBB_X0_1_1_0_1 {D : va_G} {t : Nat → ClassId} {aa : gx_AA} {l : Launch} {R : Room} {cc : ByteArray} {nL : Nat} {J : gx_J} {ad bd : Nat → Nat} {rs : va_W} {k n pc : Nat} {L : List (Nat × Value)} {st : List Value} (g : gx_G D t (gx_E0 aa) l R cc RX0 nL J) {σ : (OS × OS)} (hfr : 1 ≤ R.frames) (hlo : (st.map fun v => v.category).sum + (nativeFrameWords "java/lang/System" "arraycopy" 5 + 11) ≤ R.locals) (hd : decode cc pc = .ok (.invokestatic 18, 3)) (kk : J k n (bC ad t (os_cp σ.2 1 σ.1 1 20) ++ (bC bd t σ.2 ++ rs)) (pc + 3) L st) : J k n (bC ad t σ.1 ++ (bC bd t σ.2 ++ rs)) pc L (.int 20 :: .int 0 :: .ref (ad 2) :: .int 0 :: .ref (bd 2) :: st) := j_copyi (w' := bC ad t (os_cp σ.2 1 σ.1 1 20) ++ (bC bd t σ.2 ++ rs)) g q_l_X0_18 q_v_copy q_t_copy q_n_system 5 2 rfl rfl (by decide) (by decide) (by decide) (by decide) (by decide) hfr hlo rfl hd kk
theorem gBB_X0_1_2 {D : va_G} {t : Nat → ClassId} {aa : gx_AA} {l : Launch} {R : Room} {cc : ByteArray} {nL : Nat} {J : gx_J} {ad bd : Nat → Nat} {rs : va_W} {k n pc : Nat} {L : List (Nat × Value)} {st : List Value} (g : gx_G D t (gx_E0 aa) l R cc RX0 nL J) {σ : (OS × OS)} (hd : decode cc pc = .ok (.getfield 24, 3)) (kk : J k n (bC ad t σ.1 ++ (bC bd t σ.2 ++ rs)) (pc + 3) L (.int (os_f σ.2 2) :: st)) : J k n (bC ad t σ.1 ++ (bC bd t σ.2 ++ rs)) pc L (.ref (bd 0) :: st) := j_get g in_X0 3 rfl rfl 2 (by decide) q_f_X0_24 rfl rfl hd kk
theorem pBB_X0_0_2 {D : va_G} {t : Nat → ClassId} {aa : gx_AA} {l : Launch} {R : Room} {cc : ByteArray} {nL : Nat} {J : gx_J} {ad bd : Nat → Nat} {rs : va_W} {k n pc : Nat} {L : List (Nat × Value)} {st : List Value} (g : gx_G D t (gx_E0 aa) l R cc RX0 nL J) {σ : (OS × OS)} {v : Int32} (hd : decode cc pc = .ok (.putfield 24, 3)) (kk : J k n (bC ad t (os_sf σ.1 2 v) ++ (bC bd t σ.2 ++ rs)) (pc + 3) L st) : J k n (bC ad t σ.1 ++ (bC bd t σ.2 ++ rs)) pc L (.int v :: .ref (ad 0) :: st) := j_put (w' := bC ad t (os_sf σ.1 2 v) ++ (bC bd t σ.2 ++ rs)) g in_X0 0 rfl rfl 2 (by decide) q_f_X0_24 rfl tyX0 tyX0_ok nmX0 rfl (ty := .int) (by decide +kernel) rfl rfl (Nat.le_of_ble_eq_true rfl) rfl hd kk
set_option maxRecDepth 100000 in
set_option maxHeartbeats 4000000 in
theorem cX0_copyFrom_ {D : va_G} {t : Nat → ClassId} {aa : gx_AA} {l : Launch} {ad bd : Nat → Nat} {rs : va_W} {σ : (OS × OS)} {q : (OS × OS)} (hf : fX0_copyFrom σ = some q) : gx_C D t (gx_E0 aa) l yX0_copyFrom cX0_copyFrom 2 none 1 40 [.ref (ad 0), .ref (bd 0)] (bC ad t σ.1 ++ (bC bd t σ.2 ++ rs)) (bC ad t q.1 ++ (bC bd t q.2 ++ rs)) none := by
  refine gx_intro_v (by decide) (Nat.le_of_ble_eq_true rfl) (fun J g hE0 => ?_)
  have hE : ∀ (σ : (OS × OS)) (pc : Nat) (L : List (Nat × Value)), some σ = some q → decode cX0_copyFrom pc = .ok (.return_, 1) → J 0 0 (bC ad t σ.1 ++ (bC bd t σ.2 ++ rs)) pc L [] := fun σ pc L h h1 => by cases h; exact hE0 pc L h1
  unfold fX0_copyFrom at hf
  show J 0 0 (bC ad t σ.1 ++ (bC bd t σ.2 ++ rs)) 0 [(0, .ref (ad 0)), (1, .ref (bd 0))] []
  refine j_aload_n (pc := 0) g 1 dX0_copyFrom_0 rfl ?_
  refine gBB_X0_1_0 (σ := σ) (pc := 1) g dX0_copyFrom_1 ?_
  refine j_iconst (v := 0) (pc := 4) g dX0_copyFrom_4 (by decide) ?_
  refine j_aload_n (pc := 5) g 0 dX0_copyFrom_5 rfl ?_
  refine gBB_X0_0_0 (σ := σ) (pc := 6) g dX0_copyFrom_6 ?_
  refine j_iconst (v := 0) (pc := 9) g dX0_copyFrom_9 (by decide) ?_
  refine j_bipush (v := 20) (pc := 10) g dX0_copyFrom_10 (by decide) ?_
  refine yBB_X0_1_0_0_0 (σ := σ) (pc := 12) g (Nat.le_of_ble_eq_true rfl) (Nat.le_of_ble_eq_true rfl) dX0_copyFrom_12 ?_
  refine j_aload_n (pc := 15) g 1 dX0_copyFrom_15 rfl ?_
  refine gBB_X0_1_1 (σ := (os_cp σ.2 0 σ.1 0 20, σ.2)) (pc := 16) g dX0_copyFrom_16 ?_
  refine j_iconst (v := 0) (pc := 19) g dX0_copyFrom_19 (by decide) ?_
  refine j_aload_n (pc := 20) g 0 dX0_copyFrom_20 rfl ?_
  refine gBB_X0_0_1 (σ := (os_cp σ.2 0 σ.1 0 20, σ.2)) (pc := 21) g dX0_copyFrom_21 ?_
  refine j_iconst (v := 0) (pc := 24) g dX0_copyFrom_24 (by decide) ?_
  refine j_bipush (v := 20) (pc := 25) g dX0_copyFrom_25 (by decide) ?_
  refine yBB_X0_1_1_0_1 (σ := (os_cp σ.2 0 σ.1 0 20, σ.2)) (pc := 27) g (Nat.le_of_ble_eq_true rfl) (Nat.le_of_ble_eq_true rfl) dX0_copyFrom_27 ?_
  refine j_aload_n (pc := 30) g 0 dX0_copyFrom_30 rfl ?_
  refine j_aload_n (pc := 31) g 1 dX0_copyFrom_31 rfl ?_
  refine gBB_X0_1_2 (σ := (os_cp σ.2 1 (os_cp σ.2 0 σ.1 0 20) 1 20, σ.2)) (pc := 32) g dX0_copyFrom_32 ?_
  refine pBB_X0_0_2 (σ := (os_cp σ.2 1 (os_cp σ.2 0 σ.1 0 20) 1 20, σ.2)) (pc := 35) g dX0_copyFrom_35 ?_
  exact hE _ _ _ hf dX0_copyFrom_38
theorem gB_X0_0_2 {D : va_G} {t : Nat → ClassId} {aa : gx_AA} {l : Launch} {R : Room} {cc : ByteArray} {nL : Nat} {J : gx_J} {ad : Nat → Nat} {rs : va_W} {k n pc : Nat} {L : List (Nat × Value)} {st : List Value} (g : gx_G D t (gx_E0 aa) l R cc RX0 nL J) {σ : OS} (hd : decode cc pc = .ok (.getfield 24, 3)) (kk : J k n (bC ad t σ ++ rs) (pc + 3) L (.int (os_f σ 2) :: st)) : J k n (bC ad t σ ++ rs) pc L (.ref (ad 0) :: st) := j_get g in_X0 0 rfl rfl 2 (by decide) q_f_X0_24 rfl rfl hd kk
theorem gB_X0_0_1 {D : va_G} {t : Nat → ClassId} {aa : gx_AA} {l : Launch} {R : Room} {cc : ByteArray} {nL : Nat} {J : gx_J} {ad : Nat → Nat} {rs : va_W} {k n pc : Nat} {L : List (Nat × Value)} {st : List Value} (g : gx_G D t (gx_E0 aa) l R cc RX0 nL J) {σ : OS} (hd : decode cc pc = .ok (.getfield 15, 3)) (kk : J k n (bC ad t σ ++ rs) (pc + 3) L (.ref (ad 2) :: st)) : J k n (bC ad t σ ++ rs) pc L (.ref (ad 0) :: st) := j_get g in_X0 0 rfl rfl 1 (by decide) q_f_X0_15 rfl rfl hd kk
theorem lB_X0_0_1 {D : va_G} {t : Nat → ClassId} {aa : gx_AA} {l : Launch} {R : Room} {cc : ByteArray} {nL : Nat} {J : gx_J} {ad : Nat → Nat} {rs : va_W} {k n pc : Nat} {L : List (Nat × Value)} {st : List Value} (g : gx_G D t (gx_E0 aa) l R cc RX0 nL J) {σ : OS} {i : Int32} (hin : gx_in i 20) (hd : decode cc pc = .ok (.iaload, 1)) (kk : J k n (bC ad t σ ++ rs) (pc + 1) L (.int (os_a σ 1 i.toNatClampNeg) :: st)) : J k n (bC ad t σ ++ rs) pc L (.int i :: .ref (ad 2) :: st) := j_iald g 2 rfl hin hd kk
set_option maxRecDepth 100000 in
set_option maxHeartbeats 4000000 in
theorem tX0_countMeaning_4 {D : va_G} {t : Nat → ClassId} {aa : gx_AA} {l : Launch} {J : gx_J} {ad : Nat → Nat} {rs : va_W} {σ : OS} {q : Int32} (g : gx_G D t (gx_E0 aa) l ({ frames := 0, cells := 0, slots := 0, locals := 0 }) cX0_countMeaning RX0 4 J) (hE : ∀ (v : Int32) (pc : Nat) (L : List (Nat × Value)), some v = some q → decode cX0_countMeaning pc = .ok (.ireturn, 1) → narrow .int (.int v) = .int v → J 0 0 (bC ad t σ ++ rs) pc L [.int v])  : ∀ (n : Nat) (v1 : Int32) (v2 : Int32) (v3 : Int32), fX0_countMeaning_4 σ n v1 v2 v3 = some q → J 0 0 (bC ad t σ ++ rs) 4 [(0, .ref (ad 0)), (1, .int v1), (2, .int v2), (3, .int v3)] [] := by
  intro n
  induction n with
  | zero => intro v1 v2 v3 hf; cases hf
  | succ n ih =>
    intro v1 v2 v3 hf
    replace hf := (fX0_countMeaning_4_s σ n v1 v2 v3).symm.trans hf
    refine j_iload_n (pc := 4) g 3 dX0_countMeaning_4 rfl ?_
    refine j_aload_n (pc := 5) g 0 dX0_countMeaning_5 rfl ?_
    refine gB_X0_0_2 (σ := σ) (pc := 6) g dX0_countMeaning_6 ?_
    refine j_icmp_ge (tgt := 31) (pc := 9) g dX0_countMeaning_9 (by decide) (fun c_9 => ?_) (fun c_9 => ?_)
    · have hf := gx_it c_9 hf
      refine j_iload_n (pc := 31) g 2 dX0_countMeaning_31 rfl ?_
      exact hE _ _ _ hf dX0_countMeaning_32 rfl
    · have hf := gx_if c_9 hf
      refine j_aload_n (pc := 12) g 0 dX0_countMeaning_12 rfl ?_
      refine gB_X0_0_1 (σ := σ) (pc := 13) g dX0_countMeaning_13 ?_
      refine j_iload_n (pc := 16) g 3 dX0_countMeaning_16 rfl ?_
      obtain ⟨h_17, hf⟩ := gx_ck hf
      refine lB_X0_0_1 (σ := σ) (pc := 17) g h_17 dX0_countMeaning_17 ?_
      refine j_iload_n (pc := 18) g 1 dX0_countMeaning_18 rfl ?_
      refine j_icmp_ne (tgt := 25) (pc := 19) g dX0_countMeaning_19 (by decide) (fun c_19 => ?_) (fun c_19 => ?_)
      · have hf := gx_if c_19 hf
        refine j_iinc (v := v3 + 1) (L' := [(3, .int (v3 + 1)), (0, .ref (ad 0)), (1, .int v1), (2, .int v2)]) (pc := 25) g 3 dX0_countMeaning_25 rfl rfl (Nat.le_of_ble_eq_true rfl) rfl ?_
        refine j_goto (tgt := 4) (pc := 28) g dX0_countMeaning_28 (by decide) ?_
        refine j_sub (pc := 4) g [1, 2, 3, 0] rfl ?_
        exact ih v1 v2 (v3 + 1) hf
      · have hf := gx_it c_19 hf
        refine j_iinc (v := v2 + 1) (L' := [(2, .int (v2 + 1)), (0, .ref (ad 0)), (1, .int v1), (3, .int v3)]) (pc := 22) g 2 dX0_countMeaning_22 rfl rfl (Nat.le_of_ble_eq_true rfl) rfl ?_
        refine j_iinc (v := v3 + 1) (L' := [(3, .int (v3 + 1)), (2, .int (v2 + 1)), (0, .ref (ad 0)), (1, .int v1)]) (pc := 25) g 3 dX0_countMeaning_25 rfl rfl (Nat.le_of_ble_eq_true rfl) rfl ?_
        refine j_goto (tgt := 4) (pc := 28) g dX0_countMeaning_28 (by decide) ?_
        refine j_sub (pc := 4) g [2, 3, 1, 0] rfl ?_
        exact ih v1 (v2 + 1) (v3 + 1) hf
set_option maxRecDepth 100000 in
set_option maxHeartbeats 4000000 in
theorem cX0_countMeaning_ {D : va_G} {t : Nat → ClassId} {aa : gx_AA} {l : Launch} {ad : Nat → Nat} {rs : va_W} {σ : OS} {p1 : Int32} {q : Int32} (hf : fX0_countMeaning σ p1 = some q) : gx_C D t (gx_E0 aa) l yX0_countMeaning cX0_countMeaning 4 (some .int) 0 0 [.ref (ad 0), .int p1] (bC ad t σ ++ rs) (bC ad t σ ++ rs) (some (.int q)) := by
  refine gx_intro_i (by decide) (Nat.le_of_ble_eq_true rfl) (fun J g hE0 => ?_)
  have hE : ∀ (v : Int32) (pc : Nat) (L : List (Nat × Value)), some v = some q → decode cX0_countMeaning pc = .ok (.ireturn, 1) → narrow .int (.int v) = .int v → J 0 0 (bC ad t σ ++ rs) pc L [.int v] := fun v pc L h h1 h2 => by cases h; exact hE0 pc L h1 h2
  unfold fX0_countMeaning at hf
  show J 0 0 (bC ad t σ ++ rs) 0 [(0, .ref (ad 0)), (1, .int p1)] []
  refine j_iconst (v := 0) (pc := 0) g dX0_countMeaning_0 (by decide) ?_
  refine j_istore_n (L' := [(2, .int (0 : Int32)), (0, .ref (ad 0)), (1, .int p1)]) (pc := 1) g dX0_countMeaning_1 rfl (Nat.le_of_ble_eq_true rfl) rfl ?_
  refine j_iconst (v := 0) (pc := 2) g dX0_countMeaning_2 (by decide) ?_
  refine j_istore_n (L' := [(3, .int (0 : Int32)), (2, .int (0 : Int32)), (0, .ref (ad 0)), (1, .int p1)]) (pc := 3) g dX0_countMeaning_3 rfl (Nat.le_of_ble_eq_true rfl) rfl ?_
  refine j_sub (pc := 4) g [2, 3, 1, 0] rfl ?_
  exact tX0_countMeaning_4 g hE 2000 p1 (0 : Int32) (0 : Int32) hf
theorem gB_X0_0_0 {D : va_G} {t : Nat → ClassId} {aa : gx_AA} {l : Launch} {R : Room} {cc : ByteArray} {nL : Nat} {J : gx_J} {ad : Nat → Nat} {rs : va_W} {k n pc : Nat} {L : List (Nat × Value)} {st : List Value} (g : gx_G D t (gx_E0 aa) l R cc RX0 nL J) {σ : OS} (hd : decode cc pc = .ok (.getfield 9, 3)) (kk : J k n (bC ad t σ ++ rs) (pc + 3) L (.ref (ad 1) :: st)) : J k n (bC ad t σ ++ rs) pc L (.ref (ad 0) :: st) := j_get g in_X0 0 rfl rfl 0 (by decide) q_f_X0_9 rfl rfl hd kk
theorem lB_X0_0_0 {D : va_G} {t : Nat → ClassId} {aa : gx_AA} {l : Launch} {R : Room} {cc : ByteArray} {nL : Nat} {J : gx_J} {ad : Nat → Nat} {rs : va_W} {k n pc : Nat} {L : List (Nat × Value)} {st : List Value} (g : gx_G D t (gx_E0 aa) l R cc RX0 nL J) {σ : OS} {i : Int32} (hin : gx_in i 20) (hd : decode cc pc = .ok (.iaload, 1)) (kk : J k n (bC ad t σ ++ rs) (pc + 1) L (.int (os_a σ 0 i.toNatClampNeg) :: st)) : J k n (bC ad t σ ++ rs) pc L (.int i :: .ref (ad 1) :: st) := j_iald g 1 rfl hin hd kk
set_option maxRecDepth 100000 in
set_option maxHeartbeats 4000000 in
theorem cX0_number_ {D : va_G} {t : Nat → ClassId} {aa : gx_AA} {l : Launch} {ad : Nat → Nat} {rs : va_W} {p0 : Int32} {p1 : Int32} {q : Int32} (hf : fX0_number p0 p1 = some q) : gx_C D t (gx_E0 aa) l yX0_number cX0_number 2 (some .int) 0 0 [.int p0, .int p1] (rs) (rs) (some (.int q)) := by
  refine gx_intro_i (by decide) (Nat.le_of_ble_eq_true rfl) (fun J g hE0 => ?_)
  have hE : ∀ (v : Int32) (pc : Nat) (L : List (Nat × Value)), some v = some q → decode cX0_number pc = .ok (.ireturn, 1) → narrow .int (.int v) = .int v → J 0 0 (rs) pc L [.int v] := fun v pc L h h1 h2 => by cases h; exact hE0 pc L h1 h2
  unfold fX0_number at hf
  show J 0 0 (rs) 0 [(0, .int p0), (1, .int p1)] []
  refine j_iload_n (pc := 0) g 0 dX0_number_0 rfl ?_
  refine j_bipush (v := 97) (pc := 1) g dX0_number_1 (by decide) ?_
  refine j_isub (pc := 3) g dX0_number_3 ?_
  refine j_bipush (v := 26) (pc := 4) g dX0_number_4 (by decide) ?_
  refine j_imul (pc := 6) g dX0_number_6 ?_
  refine j_iload_n (pc := 7) g 1 dX0_number_7 rfl ?_
  refine j_iadd (pc := 8) g dX0_number_8 ?_
  refine j_bipush (v := 97) (pc := 9) g dX0_number_9 (by decide) ?_
  refine j_isub (pc := 11) g dX0_number_11 ?_
  exact hE _ _ _ hf dX0_number_12 rfl

set_option maxRecDepth 100000 in
set_option maxHeartbeats 4000000 in
theorem cX0_isLetter_ {D : va_G} {t : Nat → ClassId} {aa : gx_AA} {l : Launch} {ad : Nat → Nat} {rs : va_W} {p0 : Int32} {q : Int32} (hf : fX0_isLetter p0 = some q) : gx_C D t (gx_E0 aa) l yX0_isLetter cX0_isLetter 1 (some .boolean) 0 0 [.int p0] (rs) (rs) (some (.int q)) := by
  refine gx_intro_i (by decide) (Nat.le_of_ble_eq_true rfl) (fun J g hE0 => ?_)
  have hE : ∀ (v : Int32) (pc : Nat) (L : List (Nat × Value)), some v = some q → decode cX0_isLetter pc = .ok (.ireturn, 1) → narrow .boolean (.int v) = .int v → J 0 0 (rs) pc L [.int v] := fun v pc L h h1 h2 => by cases h; exact hE0 pc L h1 h2
  unfold fX0_isLetter at hf
  show J 0 0 (rs) 0 [(0, .int p0)] []
  refine j_iload_n (pc := 0) g 0 dX0_isLetter_0 rfl ?_
  refine j_bipush (v := 97) (pc := 1) g dX0_isLetter_1 (by decide) ?_
  refine j_icmp_lt (tgt := 16) (pc := 3) g dX0_isLetter_3 (by decide) (fun c_3 => ?_) (fun c_3 => ?_)
  · have hf := gx_it c_3 hf
    refine j_iconst (v := 0) (pc := 16) g dX0_isLetter_16 (by decide) ?_
    exact hE _ _ _ hf dX0_isLetter_17 rfl
  · have hf := gx_if c_3 hf
    refine j_iload_n (pc := 6) g 0 dX0_isLetter_6 rfl ?_
    refine j_bipush (v := 122) (pc := 7) g dX0_isLetter_7 (by decide) ?_
    refine j_icmp_gt (tgt := 16) (pc := 9) g dX0_isLetter_9 (by decide) (fun c_9 => ?_) (fun c_9 => ?_)
    · have hf := gx_it c_9 hf
      refine j_iconst (v := 0) (pc := 16) g dX0_isLetter_16 (by decide) ?_
      exact hE _ _ _ hf dX0_isLetter_17 rfl
    · have hf := gx_if c_9 hf
      refine j_iconst (v := 1) (pc := 12) g dX0_isLetter_12 (by decide) ?_
      refine j_goto (tgt := 17) (pc := 13) g dX0_isLetter_13 (by decide) ?_
      exact hE _ _ _ hf dX0_isLetter_17 rfl
theorem gOO_X3_1_0 {D : va_G} {t : Nat → ClassId} {aa : gx_AA} {l : Launch} {R : Room} {cc : ByteArray} {nL : Nat} {J : gx_J} {ad bd : Nat → Nat} {rs : va_W} {k n pc : Nat} {L : List (Nat × Value)} {st : List Value} (g : gx_G D t (gx_E0 aa) l R cc RX3 nL J) {σ : (OS × OS)} (hd : decode cc pc = .ok (.getfield 9, 3)) (kk : J k n (oC ad t σ.1 ++ (oC bd t σ.2 ++ rs)) (pc + 3) L (.ref (bd 1) :: st)) : J k n (oC ad t σ.1 ++ (oC bd t σ.2 ++ rs)) pc L (.ref (bd 0) :: st) := j_get g in_X3 6 rfl rfl 0 (by decide) q_f_X3_9 rfl rfl hd kk
theorem gOO_X3_0_0 {D : va_G} {t : Nat → ClassId} {aa : gx_AA} {l : Launch} {R : Room} {cc : ByteArray} {nL : Nat} {J : gx_J} {ad bd : Nat → Nat} {rs : va_W} {k n pc : Nat} {L : List (Nat × Value)} {st : List Value} (g : gx_G D t (gx_E0 aa) l R cc RX3 nL J) {σ : (OS × OS)} (hd : decode cc pc = .ok (.getfield 9, 3)) (kk : J k n (oC ad t σ.1 ++ (oC bd t σ.2 ++ rs)) (pc + 3) L (.ref (ad 1) :: st)) : J k n (oC ad t σ.1 ++ (oC bd t σ.2 ++ rs)) pc L (.ref (ad 0) :: st) := j_get g in_X3 0 rfl rfl 0 (by decide) q_f_X3_9 rfl rfl hd kk
theorem yOO_X3_1_0_0_0 {D : va_G} {t : Nat → ClassId} {aa : gx_AA} {l : Launch} {R : Room} {cc : ByteArray} {nL : Nat} {J : gx_J} {ad bd : Nat → Nat} {rs : va_W} {k n pc : Nat} {L : List (Nat × Value)} {st : List Value} (g : gx_G D t (gx_E0 aa) l R cc RX3 nL J) {σ : (OS × OS)} (hfr : 1 ≤ R.frames) (hlo : (st.map fun v => v.category).sum + (nativeFrameWords "java/lang/System" "arraycopy" 5 + 11) ≤ R.locals) (hd : decode cc pc = .ok (.invokestatic 32, 3)) (kk : J k n (oC ad t (os_cp σ.2 0 σ.1 0 12) ++ (oC bd t σ.2 ++ rs)) (pc + 3) L st) : J k n (oC ad t σ.1 ++ (oC bd t σ.2 ++ rs)) pc L (.int 12 :: .int 0 :: .ref (ad 1) :: .int 0 :: .ref (bd 1) :: st) := j_copyi (w' := oC ad t (os_cp σ.2 0 σ.1 0 12) ++ (oC bd t σ.2 ++ rs)) g q_l_X3_32 q_v_copy q_t_copy q_n_system 7 1 rfl rfl (by decide) (by decide) (by decide) (by decide) (by decide) hfr hlo rfl hd kk
theorem gOO_X3_1_1 {D : va_G} {t : Nat → ClassId} {aa : gx_AA} {l : Launch} {R : Room} {cc : ByteArray} {nL : Nat} {J : gx_J} {ad bd : Nat → Nat} {rs : va_W} {k n pc : Nat} {L : List (Nat × Value)} {st : List Value} (g : gx_G D t (gx_E0 aa) l R cc RX3 nL J) {σ : (OS × OS)} (hd : decode cc pc = .ok (.getfield 15, 3)) (kk : J k n (oC ad t σ.1 ++ (oC bd t σ.2 ++ rs)) (pc + 3) L (.ref (bd 2) :: st)) : J k n (oC ad t σ.1 ++ (oC bd t σ.2 ++ rs)) pc L (.ref (bd 0) :: st) := j_get g in_X3 6 rfl rfl 1 (by decide) q_f_X3_15 rfl rfl hd kk
theorem gOO_X3_0_1 {D : va_G} {t : Nat → ClassId} {aa : gx_AA} {l : Launch} {R : Room} {cc : ByteArray} {nL : Nat} {J : gx_J} {ad bd : Nat → Nat} {rs : va_W} {k n pc : Nat} {L : List (Nat × Value)} {st : List Value} (g : gx_G D t (gx_E0 aa) l R cc RX3 nL J) {σ : (OS × OS)} (hd : decode cc pc = .ok (.getfield 15, 3)) (kk : J k n (oC ad t σ.1 ++ (oC bd t σ.2 ++ rs)) (pc + 3) L (.ref (ad 2) :: st)) : J k n (oC ad t σ.1 ++ (oC bd t σ.2 ++ rs)) pc L (.ref (ad 0) :: st) := j_get g in_X3 0 rfl rfl 1 (by decide) q_f_X3_15 rfl rfl hd kk
theorem yOO_X3_1_1_0_1 {D : va_G} {t : Nat → ClassId} {aa : gx_AA} {l : Launch} {R : Room} {cc : ByteArray} {nL : Nat} {J : gx_J} {ad bd : Nat → Nat} {rs : va_W} {k n pc : Nat} {L : List (Nat × Value)} {st : List Value} (g : gx_G D t (gx_E0 aa) l R cc RX3 nL J) {σ : (OS × OS)} (hfr : 1 ≤ R.frames) (hlo : (st.map fun v => v.category).sum + (nativeFrameWords "java/lang/System" "arraycopy" 5 + 11) ≤ R.locals) (hd : decode cc pc = .ok (.invokestatic 32, 3)) (kk : J k n (oC ad t (os_cp σ.2 1 σ.1 1 12) ++ (oC bd t σ.2 ++ rs)) (pc + 3) L st) : J k n (oC ad t σ.1 ++ (oC bd t σ.2 ++ rs)) pc L (.int 12 :: .int 0 :: .ref (ad 2) :: .int 0 :: .ref (bd 2) :: st) := j_copyi (w' := oC ad t (os_cp σ.2 1 σ.1 1 12) ++ (oC bd t σ.2 ++ rs)) g q_l_X3_32 q_v_copy q_t_copy q_n_system 8 2 rfl rfl (by decide) (by decide) (by decide) (by decide) (by decide) hfr hlo rfl hd kk
theorem gOO_X3_1_2 {D : va_G} {t : Nat → ClassId} {aa : gx_AA} {l : Launch} {R : Room} {cc : ByteArray} {nL : Nat} {J : gx_J} {ad bd : Nat → Nat} {rs : va_W} {k n pc : Nat} {L : List (Nat × Value)} {st : List Value} (g : gx_G D t (gx_E0 aa) l R cc RX3 nL J) {σ : (OS × OS)} (hd : decode cc pc = .ok (.getfield 18, 3)) (kk : J k n (oC ad t σ.1 ++ (oC bd t σ.2 ++ rs)) (pc + 3) L (.ref (bd 3) :: st)) : J k n (oC ad t σ.1 ++ (oC bd t σ.2 ++ rs)) pc L (.ref (bd 0) :: st) := j_get g in_X3 6 rfl rfl 2 (by decide) q_f_X3_18 rfl rfl hd kk
theorem gOO_X3_0_2 {D : va_G} {t : Nat → ClassId} {aa : gx_AA} {l : Launch} {R : Room} {cc : ByteArray} {nL : Nat} {J : gx_J} {ad bd : Nat → Nat} {rs : va_W} {k n pc : Nat} {L : List (Nat × Value)} {st : List Value} (g : gx_G D t (gx_E0 aa) l R cc RX3 nL J) {σ : (OS × OS)} (hd : decode cc pc = .ok (.getfield 18, 3)) (kk : J k n (oC ad t σ.1 ++ (oC bd t σ.2 ++ rs)) (pc + 3) L (.ref (ad 3) :: st)) : J k n (oC ad t σ.1 ++ (oC bd t σ.2 ++ rs)) pc L (.ref (ad 0) :: st) := j_get g in_X3 0 rfl rfl 2 (by decide) q_f_X3_18 rfl rfl hd kk
theorem yOO_X3_1_2_0_2 {D : va_G} {t : Nat → ClassId} {aa : gx_AA} {l : Launch} {R : Room} {cc : ByteArray} {nL : Nat} {J : gx_J} {ad bd : Nat → Nat} {rs : va_W} {k n pc : Nat} {L : List (Nat × Value)} {st : List Value} (g : gx_G D t (gx_E0 aa) l R cc RX3 nL J) {σ : (OS × OS)} (hfr : 1 ≤ R.frames) (hlo : (st.map fun v => v.category).sum + (nativeFrameWords "java/lang/System" "arraycopy" 5 + 11) ≤ R.locals) (hd : decode cc pc = .ok (.invokestatic 32, 3)) (kk : J k n (oC ad t (os_cp σ.2 2 σ.1 2 12) ++ (oC bd t σ.2 ++ rs)) (pc + 3) L st) : J k n (oC ad t σ.1 ++ (oC bd t σ.2 ++ rs)) pc L (.int 12 :: .int 0 :: .ref (ad 3) :: .int 0 :: .ref (bd 3) :: st) := j_copyi (w' := oC ad t (os_cp σ.2 2 σ.1 2 12) ++ (oC bd t σ.2 ++ rs)) g q_l_X3_32 q_v_copy q_t_copy q_n_system 9 3 rfl rfl (by decide) (by decide) (by decide) (by decide) (by decide) hfr hlo rfl hd kk
theorem gOO_X3_1_3 {D : va_G} {t : Nat → ClassId} {aa : gx_AA} {l : Launch} {R : Room} {cc : ByteArray} {nL : Nat} {J : gx_J} {ad bd : Nat → Nat} {rs : va_W} {k n pc : Nat} {L : List (Nat × Value)} {st : List Value} (g : gx_G D t (gx_E0 aa) l R cc RX3 nL J) {σ : (OS × OS)} (hd : decode cc pc = .ok (.getfield 21, 3)) (kk : J k n (oC ad t σ.1 ++ (oC bd t σ.2 ++ rs)) (pc + 3) L (.ref (bd 4) :: st)) : J k n (oC ad t σ.1 ++ (oC bd t σ.2 ++ rs)) pc L (.ref (bd 0) :: st) := j_get g in_X3 6 rfl rfl 3 (by decide) q_f_X3_21 rfl rfl hd kk
theorem gOO_X3_0_3 {D : va_G} {t : Nat → ClassId} {aa : gx_AA} {l : Launch} {R : Room} {cc : ByteArray} {nL : Nat} {J : gx_J} {ad bd : Nat → Nat} {rs : va_W} {k n pc : Nat} {L : List (Nat × Value)} {st : List Value} (g : gx_G D t (gx_E0 aa) l R cc RX3 nL J) {σ : (OS × OS)} (hd : decode cc pc = .ok (.getfield 21, 3)) (kk : J k n (oC ad t σ.1 ++ (oC bd t σ.2 ++ rs)) (pc + 3) L (.ref (ad 4) :: st)) : J k n (oC ad t σ.1 ++ (oC bd t σ.2 ++ rs)) pc L (.ref (ad 0) :: st) := j_get g in_X3 0 rfl rfl 3 (by decide) q_f_X3_21 rfl rfl hd kk
theorem yOO_X3_1_3_0_3 {D : va_G} {t : Nat → ClassId} {aa : gx_AA} {l : Launch} {R : Room} {cc : ByteArray} {nL : Nat} {J : gx_J} {ad bd : Nat → Nat} {rs : va_W} {k n pc : Nat} {L : List (Nat × Value)} {st : List Value} (g : gx_G D t (gx_E0 aa) l R cc RX3 nL J) {σ : (OS × OS)} (hfr : 1 ≤ R.frames) (hlo : (st.map fun v => v.category).sum + (nativeFrameWords "java/lang/System" "arraycopy" 5 + 11) ≤ R.locals) (hd : decode cc pc = .ok (.invokestatic 32, 3)) (kk : J k n (oC ad t (os_cp σ.2 3 σ.1 3 12) ++ (oC bd t σ.2 ++ rs)) (pc + 3) L st) : J k n (oC ad t σ.1 ++ (oC bd t σ.2 ++ rs)) pc L (.int 12 :: .int 0 :: .ref (ad 4) :: .int 0 :: .ref (bd 4) :: st) := j_copyi (w' := oC ad t (os_cp σ.2 3 σ.1 3 12) ++ (oC bd t σ.2 ++ rs)) g q_l_X3_32 q_v_copy q_t_copy q_n_system 10 4 rfl rfl (by decide) (by decide) (by decide) (by decide) (by decide) hfr hlo rfl hd kk
theorem gOO_X3_1_5 {D : va_G} {t : Nat → ClassId} {aa : gx_AA} {l : Launch} {R : Room} {cc : ByteArray} {nL : Nat} {J : gx_J} {ad bd : Nat → Nat} {rs : va_W} {k n pc : Nat} {L : List (Nat × Value)} {st : List Value} (g : gx_G D t (gx_E0 aa) l R cc RX3 nL J) {σ : (OS × OS)} (hd : decode cc pc = .ok (.getfield 28, 3)) (kk : J k n (oC ad t σ.1 ++ (oC bd t σ.2 ++ rs)) (pc + 3) L (.int (os_f σ.2 5) :: st)) : J k n (oC ad t σ.1 ++ (oC bd t σ.2 ++ rs)) pc L (.ref (bd 0) :: st) := j_get g in_X3 6 rfl rfl 5 (by decide) q_f_X3_28 rfl rfl hd kk
theorem pOO_X3_0_5 {D : va_G} {t : Nat → ClassId} {aa : gx_AA} {l : Launch} {R : Room} {cc : ByteArray} {nL : Nat} {J : gx_J} {ad bd : Nat → Nat} {rs : va_W} {k n pc : Nat} {L : List (Nat × Value)} {st : List Value} (g : gx_G D t (gx_E0 aa) l R cc RX3 nL J) {σ : (OS × OS)} {v : Int32} (hd : decode cc pc = .ok (.putfield 28, 3)) (kk : J k n (oC ad t (os_sf σ.1 5 v) ++ (oC bd t σ.2 ++ rs)) (pc + 3) L st) : J k n (oC ad t σ.1 ++ (oC bd t σ.2 ++ rs)) pc L (.int v :: .ref (ad 0) :: st) := j_put (w' := oC ad t (os_sf σ.1 5 v) ++ (oC bd t σ.2 ++ rs)) g in_X3 0 rfl rfl 5 (by decide) q_f_X3_28 rfl tyX3 tyX3_ok nmX3 rfl (ty := .int) (by decide +kernel) rfl rfl (Nat.le_of_ble_eq_true rfl) rfl hd kk
theorem gOO_X3_0_4 {D : va_G} {t : Nat → ClassId} {aa : gx_AA} {l : Launch} {R : Room} {cc : ByteArray} {nL : Nat} {J : gx_J} {ad bd : Nat → Nat} {rs : va_W} {k n pc : Nat} {L : List (Nat × Value)} {st : List Value} (g : gx_G D t (gx_E0 aa) l R cc RX3 nL J) {σ : (OS × OS)} (hd : decode cc pc = .ok (.getfield 24, 3)) (kk : J k n (oC ad t σ.1 ++ (oC bd t σ.2 ++ rs)) (pc + 3) L (.ref (ad 5) :: st)) : J k n (oC ad t σ.1 ++ (oC bd t σ.2 ++ rs)) pc L (.ref (ad 0) :: st) := j_get g in_X3 0 rfl rfl 4 (by decide) q_f_X3_24 rfl rfl hd kk
theorem gOO_X3_1_4 {D : va_G} {t : Nat → ClassId} {aa : gx_AA} {l : Launch} {R : Room} {cc : ByteArray} {nL : Nat} {J : gx_J} {ad bd : Nat → Nat} {rs : va_W} {k n pc : Nat} {L : List (Nat × Value)} {st : List Value} (g : gx_G D t (gx_E0 aa) l R cc RX3 nL J) {σ : (OS × OS)} (hd : decode cc pc = .ok (.getfield 24, 3)) (kk : J k n (oC ad t σ.1 ++ (oC bd t σ.2 ++ rs)) (pc + 3) L (.ref (bd 5) :: st)) : J k n (oC ad t σ.1 ++ (oC bd t σ.2 ++ rs)) pc L (.ref (bd 0) :: st) := j_get g in_X3 6 rfl rfl 4 (by decide) q_f_X3_24 rfl rfl hd kk
theorem lOO_X3_1_4 {D : va_G} {t : Nat → ClassId} {aa : gx_AA} {l : Launch} {R : Room} {cc : ByteArray} {nL : Nat} {J : gx_J} {ad bd : Nat → Nat} {rs : va_W} {k n pc : Nat} {L : List (Nat × Value)} {st : List Value} (g : gx_G D t (gx_E0 aa) l R cc RX3 nL J) {σ : (OS × OS)} {i : Int32} (hin : gx_in i 12) (hd : decode cc pc = .ok (.baload, 1)) (kk : J k n (oC ad t σ.1 ++ (oC bd t σ.2 ++ rs)) (pc + 1) L (.int (os_a σ.2 4 i.toNatClampNeg) :: st)) : J k n (oC ad t σ.1 ++ (oC bd t σ.2 ++ rs)) pc L (.int i :: .ref (bd 5) :: st) := j_zald g 11 rfl hin hd kk
theorem sOO_X3_0_4 {D : va_G} {t : Nat → ClassId} {aa : gx_AA} {l : Launch} {R : Room} {cc : ByteArray} {nL : Nat} {J : gx_J} {ad bd : Nat → Nat} {rs : va_W} {k n pc : Nat} {L : List (Nat × Value)} {st : List Value} (g : gx_G D t (gx_E0 aa) l R cc RX3 nL J) {σ : (OS × OS)} {i x : Int32} (hin : gx_in i 12) (hd : decode cc pc = .ok (.bastore, 1)) (kk : J k n (oC ad t (os_sa σ.1 4 i.toNatClampNeg (vp_nar .boolean x)) ++ (oC bd t σ.2 ++ rs)) (pc + 1) L st) : J k n (oC ad t σ.1 ++ (oC bd t σ.2 ++ rs)) pc L (.int x :: .int i :: .ref (ad 5) :: st) := j_zast (w' := oC ad t (os_sa σ.1 4 i.toNatClampNeg (vp_nar .boolean x)) ++ (oC bd t σ.2 ++ rs)) g 5 rfl hin rfl hd kk
theorem gN_X2_0_0 {D : va_G} {t : Nat → ClassId} {aa : gx_AA} {l : Launch} {R : Room} {cc : ByteArray} {nL : Nat} {J : gx_J} {ad : Nat → Nat} {rs : va_W} {k n pc : Nat} {L : List (Nat × Value)} {st : List Value} (g : gx_G D t (gx_E0 aa) l R cc RX2 nL J) {σ : NS} (hd : decode cc pc = .ok (.getfield 12, 3)) (kk : J k n (nC ad t σ ++ rs) (pc + 3) L (.ref (ad 1) :: st)) : J k n (nC ad t σ ++ rs) pc L (.ref (ad 0) :: st) := j_get g in_X2 0 rfl rfl 0 (by decide) q_f_X2_12 rfl rfl hd kk
theorem gN_X2_0_4 {D : va_G} {t : Nat → ClassId} {aa : gx_AA} {l : Launch} {R : Room} {cc : ByteArray} {nL : Nat} {J : gx_J} {ad : Nat → Nat} {rs : va_W} {k n pc : Nat} {L : List (Nat × Value)} {st : List Value} (g : gx_G D t (gx_E0 aa) l R cc RX2 nL J) {σ : NS} (hd : decode cc pc = .ok (.getfield 46, 3)) (kk : J k n (nC ad t σ ++ rs) (pc + 3) L (.int (os_f σ.1 4) :: st)) : J k n (nC ad t σ ++ rs) pc L (.ref (ad 0) :: st) := j_get g in_X2 0 rfl rfl 4 (by decide) q_f_X2_46 rfl rfl hd kk
theorem gN_X2_0_1 {D : va_G} {t : Nat → ClassId} {aa : gx_AA} {l : Launch} {R : Room} {cc : ByteArray} {nL : Nat} {J : gx_J} {ad : Nat → Nat} {rs : va_W} {k n pc : Nat} {L : List (Nat × Value)} {st : List Value} (g : gx_G D t (gx_E0 aa) l R cc RX2 nL J) {σ : NS} (hd : decode cc pc = .ok (.getfield 21, 3)) (kk : J k n (nC ad t σ ++ rs) (pc + 3) L (.ref (ad 7) :: st)) : J k n (nC ad t σ ++ rs) pc L (.ref (ad 0) :: st) := j_get g in_X2 0 rfl rfl 1 (by decide) q_f_X2_21 rfl rfl hd kk
theorem pN_X2_2_4 {D : va_G} {t : Nat → ClassId} {aa : gx_AA} {l : Launch} {R : Room} {cc : ByteArray} {nL : Nat} {J : gx_J} {ad : Nat → Nat} {rs : va_W} {k n pc : Nat} {L : List (Nat × Value)} {st : List Value} (g : gx_G D t (gx_E0 aa) l R cc RX2 nL J) {σ : NS} {v : Int32} (hd : decode cc pc = .ok (.putfield 93, 3)) (kk : J k n (nC ad t (σ.1, σ.2.1, os_sf σ.2.2.1 4 v, σ.2.2.2) ++ rs) (pc + 3) L st) : J k n (nC ad t σ ++ rs) pc L (.int v :: .ref (ad 7) :: st) := j_put (w' := nC ad t (σ.1, σ.2.1, os_sf σ.2.2.1 4 v, σ.2.2.2) ++ rs) g in_X4 7 rfl rfl 4 (by decide) q_f_X2_93 rfl tyX4 tyX4_ok nmX4 rfl (ty := .int) (by decide +kernel) rfl rfl (Nat.le_of_ble_eq_true rfl) rfl hd kk
theorem gN_X2_0_3 {D : va_G} {t : Nat → ClassId} {aa : gx_AA} {l : Launch} {R : Room} {cc : ByteArray} {nL : Nat} {J : gx_J} {ad : Nat → Nat} {rs : va_W} {k n pc : Nat} {L : List (Nat × Value)} {st : List Value} (g : gx_G D t (gx_E0 aa) l R cc RX2 nL J) {σ : NS} (hd : decode cc pc = .ok (.getfield 42, 3)) (kk : J k n (nC ad t σ ++ rs) (pc + 3) L (.int (os_f σ.1 3) :: st)) : J k n (nC ad t σ ++ rs) pc L (.ref (ad 0) :: st) := j_get g in_X2 0 rfl rfl 3 (by decide) q_f_X2_42 rfl rfl hd kk
theorem pN_X2_0_3 {D : va_G} {t : Nat → ClassId} {aa : gx_AA} {l : Launch} {R : Room} {cc : ByteArray} {nL : Nat} {J : gx_J} {ad : Nat → Nat} {rs : va_W} {k n pc : Nat} {L : List (Nat × Value)} {st : List Value} (g : gx_G D t (gx_E0 aa) l R cc RX2 nL J) {σ : NS} {v : Int32} (hd : decode cc pc = .ok (.putfield 42, 3)) (kk : J k n (nC ad t (os_sf σ.1 3 v, σ.2) ++ rs) (pc + 3) L st) : J k n (nC ad t σ ++ rs) pc L (.int v :: .ref (ad 0) :: st) := j_put (w' := nC ad t (os_sf σ.1 3 v, σ.2) ++ rs) g in_X2 0 rfl rfl 3 (by decide) q_f_X2_42 rfl tyX2 tyX2_ok nmX2 rfl (ty := .int) (by decide +kernel) rfl rfl (Nat.le_of_ble_eq_true rfl) rfl hd kk
theorem gN_X2_2_4 {D : va_G} {t : Nat → ClassId} {aa : gx_AA} {l : Launch} {R : Room} {cc : ByteArray} {nL : Nat} {J : gx_J} {ad : Nat → Nat} {rs : va_W} {k n pc : Nat} {L : List (Nat × Value)} {st : List Value} (g : gx_G D t (gx_E0 aa) l R cc RX2 nL J) {σ : NS} (hd : decode cc pc = .ok (.getfield 93, 3)) (kk : J k n (nC ad t σ ++ rs) (pc + 3) L (.int (os_f σ.2.2.1 4) :: st)) : J k n (nC ad t σ ++ rs) pc L (.ref (ad 7) :: st) := j_get g in_X4 7 rfl rfl 4 (by decide) q_f_X2_93 rfl rfl hd kk
theorem gN_X2_2_3 {D : va_G} {t : Nat → ClassId} {aa : gx_AA} {l : Launch} {R : Room} {cc : ByteArray} {nL : Nat} {J : gx_J} {ad : Nat → Nat} {rs : va_W} {k n pc : Nat} {L : List (Nat × Value)} {st : List Value} (g : gx_G D t (gx_E0 aa) l R cc RX2 nL J) {σ : NS} (hd : decode cc pc = .ok (.getfield 89, 3)) (kk : J k n (nC ad t σ ++ rs) (pc + 3) L (.int (os_f σ.2.2.1 3) :: st)) : J k n (nC ad t σ ++ rs) pc L (.ref (ad 7) :: st) := j_get g in_X4 7 rfl rfl 3 (by decide) q_f_X2_89 rfl rfl hd kk
theorem gN_X2_2_1 {D : va_G} {t : Nat → ClassId} {aa : gx_AA} {l : Launch} {R : Room} {cc : ByteArray} {nL : Nat} {J : gx_J} {ad : Nat → Nat} {rs : va_W} {k n pc : Nat} {L : List (Nat × Value)} {st : List Value} (g : gx_G D t (gx_E0 aa) l R cc RX2 nL J) {σ : NS} (hd : decode cc pc = .ok (.getfield 99, 3)) (kk : J k n (nC ad t σ ++ rs) (pc + 3) L (.ref (ad 9) :: st)) : J k n (nC ad t σ ++ rs) pc L (.ref (ad 7) :: st) := j_get g in_X4 7 rfl rfl 1 (by decide) q_f_X2_99 rfl rfl hd kk
theorem lN_X2_2_1 {D : va_G} {t : Nat → ClassId} {aa : gx_AA} {l : Launch} {R : Room} {cc : ByteArray} {nL : Nat} {J : gx_J} {ad : Nat → Nat} {rs : va_W} {k n pc : Nat} {L : List (Nat × Value)} {st : List Value} (g : gx_G D t (gx_E0 aa) l R cc RX2 nL J) {σ : NS} {i : Int32} (hin : gx_in i 6) (hd : decode cc pc = .ok (.iaload, 1)) (kk : J k n (nC ad t σ ++ rs) (pc + 1) L (.int (os_a σ.2.2.1 1 i.toNatClampNeg) :: st)) : J k n (nC ad t σ ++ rs) pc L (.int i :: .ref (ad 9) :: st) := j_iald g 9 rfl hin hd kk
theorem gN_X2_2_0 {D : va_G} {t : Nat → ClassId} {aa : gx_AA} {l : Launch} {R : Room} {cc : ByteArray} {nL : Nat} {J : gx_J} {ad : Nat → Nat} {rs : va_W} {k n pc : Nat} {L : List (Nat × Value)} {st : List Value} (g : gx_G D t (gx_E0 aa) l R cc RX2 nL J) {σ : NS} (hd : decode cc pc = .ok (.getfield 102, 3)) (kk : J k n (nC ad t σ ++ rs) (pc + 3) L (.ref (ad 8) :: st)) : J k n (nC ad t σ ++ rs) pc L (.ref (ad 7) :: st) := j_get g in_X4 7 rfl rfl 0 (by decide) q_f_X2_102 rfl rfl hd kk
theorem lN_X2_2_0 {D : va_G} {t : Nat → ClassId} {aa : gx_AA} {l : Launch} {R : Room} {cc : ByteArray} {nL : Nat} {J : gx_J} {ad : Nat → Nat} {rs : va_W} {k n pc : Nat} {L : List (Nat × Value)} {st : List Value} (g : gx_G D t (gx_E0 aa) l R cc RX2 nL J) {σ : NS} {i : Int32} (hin : gx_in i 6) (hd : decode cc pc = .ok (.iaload, 1)) (kk : J k n (nC ad t σ ++ rs) (pc + 1) L (.int (os_a σ.2.2.1 0 i.toNatClampNeg) :: st)) : J k n (nC ad t σ ++ rs) pc L (.int i :: .ref (ad 8) :: st) := j_iald g 8 rfl hin hd kk
theorem gNN_X2_0_0 {D : va_G} {t : Nat → ClassId} {aa : gx_AA} {l : Launch} {R : Room} {cc : ByteArray} {nL : Nat} {J : gx_J} {ad bd : Nat → Nat} {rs : va_W} {k n pc : Nat} {L : List (Nat × Value)} {st : List Value} (g : gx_G D t (gx_E0 aa) l R cc RX2 nL J) {σ : (NS × NS)} (hd : decode cc pc = .ok (.getfield 12, 3)) (kk : J k n (nC ad t σ.1 ++ (nC bd t σ.2 ++ rs)) (pc + 3) L (.ref (ad 1) :: st)) : J k n (nC ad t σ.1 ++ (nC bd t σ.2 ++ rs)) pc L (.ref (ad 0) :: st) := j_get g in_X2 0 rfl rfl 0 (by decide) q_f_X2_12 rfl rfl hd kk
theorem gNN_X2_4_0 {D : va_G} {t : Nat → ClassId} {aa : gx_AA} {l : Launch} {R : Room} {cc : ByteArray} {nL : Nat} {J : gx_J} {ad bd : Nat → Nat} {rs : va_W} {k n pc : Nat} {L : List (Nat × Value)} {st : List Value} (g : gx_G D t (gx_E0 aa) l R cc RX2 nL J) {σ : (NS × NS)} (hd : decode cc pc = .ok (.getfield 12, 3)) (kk : J k n (nC ad t σ.1 ++ (nC bd t σ.2 ++ rs)) (pc + 3) L (.ref (bd 1) :: st)) : J k n (nC ad t σ.1 ++ (nC bd t σ.2 ++ rs)) pc L (.ref (bd 0) :: st) := j_get g in_X2 14 rfl rfl 0 (by decide) q_f_X2_12 rfl rfl hd kk
set_option maxRecDepth 100000 in
set_option maxHeartbeats 4000000 in
theorem tX3_copyFrom_62 {D : va_G} {t : Nat → ClassId} {aa : gx_AA} {l : Launch} {J : gx_J} {ad bd : Nat → Nat} {rs : va_W} {q : (OS × OS)} (g : gx_G D t (gx_E0 aa) l ({ frames := 1, cells := 0, slots := 0, locals := 40 }) cX3_copyFrom RX3 3 J) (hE : ∀ (σ : (OS × OS)) (pc : Nat) (L : List (Nat × Value)), some σ = some q → decode cX3_copyFrom pc = .ok (.return_, 1) → J 0 0 (oC ad t σ.1 ++ (oC bd t σ.2 ++ rs)) pc L [])  : ∀ (n : Nat) (σ : (OS × OS)) (v2 : Int32), fX3_copyFrom_62 n σ v2 = some q → J 0 0 (oC ad t σ.1 ++ (oC bd t σ.2 ++ rs)) 62 [(0, .ref (ad 0)), (1, .ref (bd 0)), (2, .int v2)] [] := by
  intro n
  induction n with
  | zero => intro σ v2 hf; cases hf
  | succ n ih =>
    intro σ v2 hf
    replace hf := (fX3_copyFrom_62_s n σ v2).symm.trans hf
    refine j_iload_n (pc := 62) g 2 dX3_copyFrom_62 rfl ?_
    refine j_bipush (v := 12) (pc := 63) g dX3_copyFrom_63 (by decide) ?_
    refine j_icmp_ge (tgt := 86) (pc := 65) g dX3_copyFrom_65 (by decide) (fun c_65 => ?_) (fun c_65 => ?_)
    · have hf := gx_it c_65 hf
      refine j_aload_n (pc := 86) g 0 dX3_copyFrom_86 rfl ?_
      refine j_aload_n (pc := 87) g 1 dX3_copyFrom_87 rfl ?_
      refine gOO_X3_1_5 (σ := σ) (pc := 88) g dX3_copyFrom_88 ?_
      refine pOO_X3_0_5 (σ := σ) (pc := 91) g dX3_copyFrom_91 ?_
      exact hE _ _ _ hf dX3_copyFrom_94
    · have hf := gx_if c_65 hf
      refine j_aload_n (pc := 68) g 0 dX3_copyFrom_68 rfl ?_
      refine gOO_X3_0_4 (σ := σ) (pc := 69) g dX3_copyFrom_69 ?_
      refine j_iload_n (pc := 72) g 2 dX3_copyFrom_72 rfl ?_
      refine j_aload_n (pc := 73) g 1 dX3_copyFrom_73 rfl ?_
      refine gOO_X3_1_4 (σ := σ) (pc := 74) g dX3_copyFrom_74 ?_
      refine j_iload_n (pc := 77) g 2 dX3_copyFrom_77 rfl ?_
      obtain ⟨h_78, hf⟩ := gx_ck hf
      refine lOO_X3_1_4 (σ := σ) (pc := 78) g h_78 dX3_copyFrom_78 ?_
      obtain ⟨h_79, hf⟩ := gx_ck hf
      refine sOO_X3_0_4 (σ := σ) (pc := 79) g h_79 dX3_copyFrom_79 ?_
      refine j_iinc (v := v2 + 1) (L' := [(2, .int (v2 + 1)), (0, .ref (ad 0)), (1, .ref (bd 0))]) (pc := 80) g 2 dX3_copyFrom_80 rfl rfl (Nat.le_of_ble_eq_true rfl) rfl ?_
      refine j_goto (tgt := 62) (pc := 83) g dX3_copyFrom_83 (by decide) ?_
      refine j_sub (pc := 62) g [1, 2, 0] rfl ?_
      exact ih (os_sa σ.1 4 v2.toNatClampNeg (vp_nar .boolean (os_a σ.2 4 v2.toNatClampNeg)), σ.2) (v2 + 1) hf
set_option maxRecDepth 100000 in
set_option maxHeartbeats 4000000 in
theorem cX3_copyFrom_ {D : va_G} {t : Nat → ClassId} {aa : gx_AA} {l : Launch} {ad bd : Nat → Nat} {rs : va_W} {σ : (OS × OS)} {q : (OS × OS)} (hf : fX3_copyFrom σ = some q) : gx_C D t (gx_E0 aa) l yX3_copyFrom cX3_copyFrom 3 none 1 40 [.ref (ad 0), .ref (bd 0)] (oC ad t σ.1 ++ (oC bd t σ.2 ++ rs)) (oC ad t q.1 ++ (oC bd t q.2 ++ rs)) none := by
  refine gx_intro_v (by decide) (Nat.le_of_ble_eq_true rfl) (fun J g hE0 => ?_)
  have hE : ∀ (σ : (OS × OS)) (pc : Nat) (L : List (Nat × Value)), some σ = some q → decode cX3_copyFrom pc = .ok (.return_, 1) → J 0 0 (oC ad t σ.1 ++ (oC bd t σ.2 ++ rs)) pc L [] := fun σ pc L h h1 => by cases h; exact hE0 pc L h1
  unfold fX3_copyFrom at hf
  show J 0 0 (oC ad t σ.1 ++ (oC bd t σ.2 ++ rs)) 0 [(0, .ref (ad 0)), (1, .ref (bd 0))] []
  refine j_aload_n (pc := 0) g 1 dX3_copyFrom_0 rfl ?_
  refine gOO_X3_1_0 (σ := σ) (pc := 1) g dX3_copyFrom_1 ?_
  refine j_iconst (v := 0) (pc := 4) g dX3_copyFrom_4 (by decide) ?_
  refine j_aload_n (pc := 5) g 0 dX3_copyFrom_5 rfl ?_
  refine gOO_X3_0_0 (σ := σ) (pc := 6) g dX3_copyFrom_6 ?_
  refine j_iconst (v := 0) (pc := 9) g dX3_copyFrom_9 (by decide) ?_
  refine j_bipush (v := 12) (pc := 10) g dX3_copyFrom_10 (by decide) ?_
  refine yOO_X3_1_0_0_0 (σ := σ) (pc := 12) g (Nat.le_of_ble_eq_true rfl) (Nat.le_of_ble_eq_true rfl) dX3_copyFrom_12 ?_
  refine j_aload_n (pc := 15) g 1 dX3_copyFrom_15 rfl ?_
  refine gOO_X3_1_1 (σ := (os_cp σ.2 0 σ.1 0 12, σ.2)) (pc := 16) g dX3_copyFrom_16 ?_
  refine j_iconst (v := 0) (pc := 19) g dX3_copyFrom_19 (by decide) ?_
  refine j_aload_n (pc := 20) g 0 dX3_copyFrom_20 rfl ?_
  refine gOO_X3_0_1 (σ := (os_cp σ.2 0 σ.1 0 12, σ.2)) (pc := 21) g dX3_copyFrom_21 ?_
  refine j_iconst (v := 0) (pc := 24) g dX3_copyFrom_24 (by decide) ?_
  refine j_bipush (v := 12) (pc := 25) g dX3_copyFrom_25 (by decide) ?_
  refine yOO_X3_1_1_0_1 (σ := (os_cp σ.2 0 σ.1 0 12, σ.2)) (pc := 27) g (Nat.le_of_ble_eq_true rfl) (Nat.le_of_ble_eq_true rfl) dX3_copyFrom_27 ?_
  refine j_aload_n (pc := 30) g 1 dX3_copyFrom_30 rfl ?_
  refine gOO_X3_1_2 (σ := (os_cp σ.2 1 (os_cp σ.2 0 σ.1 0 12) 1 12, σ.2)) (pc := 31) g dX3_copyFrom_31 ?_
  refine j_iconst (v := 0) (pc := 34) g dX3_copyFrom_34 (by decide) ?_
  refine j_aload_n (pc := 35) g 0 dX3_copyFrom_35 rfl ?_
  refine gOO_X3_0_2 (σ := (os_cp σ.2 1 (os_cp σ.2 0 σ.1 0 12) 1 12, σ.2)) (pc := 36) g dX3_copyFrom_36 ?_
  refine j_iconst (v := 0) (pc := 39) g dX3_copyFrom_39 (by decide) ?_
  refine j_bipush (v := 12) (pc := 40) g dX3_copyFrom_40 (by decide) ?_
  refine yOO_X3_1_2_0_2 (σ := (os_cp σ.2 1 (os_cp σ.2 0 σ.1 0 12) 1 12, σ.2)) (pc := 42) g (Nat.le_of_ble_eq_true rfl) (Nat.le_of_ble_eq_true rfl) dX3_copyFrom_42 ?_
  refine j_aload_n (pc := 45) g 1 dX3_copyFrom_45 rfl ?_
  refine gOO_X3_1_3 (σ := (os_cp σ.2 2 (os_cp σ.2 1 (os_cp σ.2 0 σ.1 0 12) 1 12) 2 12, σ.2)) (pc := 46) g dX3_copyFrom_46 ?_
  refine j_iconst (v := 0) (pc := 49) g dX3_copyFrom_49 (by decide) ?_
  refine j_aload_n (pc := 50) g 0 dX3_copyFrom_50 rfl ?_
  refine gOO_X3_0_3 (σ := (os_cp σ.2 2 (os_cp σ.2 1 (os_cp σ.2 0 σ.1 0 12) 1 12) 2 12, σ.2)) (pc := 51) g dX3_copyFrom_51 ?_
  refine j_iconst (v := 0) (pc := 54) g dX3_copyFrom_54 (by decide) ?_
  refine j_bipush (v := 12) (pc := 55) g dX3_copyFrom_55 (by decide) ?_
  refine yOO_X3_1_3_0_3 (σ := (os_cp σ.2 2 (os_cp σ.2 1 (os_cp σ.2 0 σ.1 0 12) 1 12) 2 12, σ.2)) (pc := 57) g (Nat.le_of_ble_eq_true rfl) (Nat.le_of_ble_eq_true rfl) dX3_copyFrom_57 ?_
  refine j_iconst (v := 0) (pc := 60) g dX3_copyFrom_60 (by decide) ?_
  refine j_istore_n (L' := [(2, .int (0 : Int32)), (0, .ref (ad 0)), (1, .ref (bd 0))]) (pc := 61) g dX3_copyFrom_61 rfl (Nat.le_of_ble_eq_true rfl) rfl ?_
  refine j_sub (pc := 62) g [1, 2, 0] rfl ?_
  exact tX3_copyFrom_62 g hE 2000 (os_cp σ.2 3 (os_cp σ.2 2 (os_cp σ.2 1 (os_cp σ.2 0 σ.1 0 12) 1 12) 2 12) 3 12, σ.2) (0 : Int32) hf
theorem gO_X3_0_4 {D : va_G} {t : Nat → ClassId} {aa : gx_AA} {l : Launch} {R : Room} {cc : ByteArray} {nL : Nat} {J : gx_J} {ad : Nat → Nat} {rs : va_W} {k n pc : Nat} {L : List (Nat × Value)} {st : List Value} (g : gx_G D t (gx_E0 aa) l R cc RX3 nL J) {σ : OS} (hd : decode cc pc = .ok (.getfield 24, 3)) (kk : J k n (oC ad t σ ++ rs) (pc + 3) L (.ref (ad 5) :: st)) : J k n (oC ad t σ ++ rs) pc L (.ref (ad 0) :: st) := j_get g in_X3 0 rfl rfl 4 (by decide) q_f_X3_24 rfl rfl hd kk
theorem lO_X3_0_4 {D : va_G} {t : Nat → ClassId} {aa : gx_AA} {l : Launch} {R : Room} {cc : ByteArray} {nL : Nat} {J : gx_J} {ad : Nat → Nat} {rs : va_W} {k n pc : Nat} {L : List (Nat × Value)} {st : List Value} (g : gx_G D t (gx_E0 aa) l R cc RX3 nL J) {σ : OS} {i : Int32} (hin : gx_in i 12) (hd : decode cc pc = .ok (.baload, 1)) (kk : J k n (oC ad t σ ++ rs) (pc + 1) L (.int (os_a σ 4 i.toNatClampNeg) :: st)) : J k n (oC ad t σ ++ rs) pc L (.int i :: .ref (ad 5) :: st) := j_zald g 5 rfl hin hd kk
set_option maxRecDepth 100000 in
set_option maxHeartbeats 4000000 in
theorem cX3_serves_ {D : va_G} {t : Nat → ClassId} {aa : gx_AA} {l : Launch} {ad : Nat → Nat} {rs : va_W} {σ : OS} {p1 : Int32} {q : Int32} (hf : fX3_serves σ p1 = some q) : gx_C D t (gx_E0 aa) l yX3_serves cX3_serves 2 (some .boolean) 0 0 [.ref (ad 0), .int p1] (oC ad t σ ++ rs) (oC ad t σ ++ rs) (some (.int q)) := by
  refine gx_intro_i (by decide) (Nat.le_of_ble_eq_true rfl) (fun J g hE0 => ?_)
  have hE : ∀ (v : Int32) (pc : Nat) (L : List (Nat × Value)), some v = some q → decode cX3_serves pc = .ok (.ireturn, 1) → narrow .boolean (.int v) = .int v → J 0 0 (oC ad t σ ++ rs) pc L [.int v] := fun v pc L h h1 h2 => by cases h; exact hE0 pc L h1 h2
  unfold fX3_serves at hf
  show J 0 0 (oC ad t σ ++ rs) 0 [(0, .ref (ad 0)), (1, .int p1)] []
  refine j_iload_n (pc := 0) g 1 dX3_serves_0 rfl ?_
  refine j_if_lt (tgt := 23) (pc := 1) g dX3_serves_1 (by decide) (fun c_1 => ?_) (fun c_1 => ?_)
  · have hf := gx_it c_1 hf
    refine j_iconst (v := 0) (pc := 23) g dX3_serves_23 (by decide) ?_
    exact hE _ _ _ hf dX3_serves_24 rfl
  · have hf := gx_if c_1 hf
    refine j_iload_n (pc := 4) g 1 dX3_serves_4 rfl ?_
    refine j_bipush (v := 12) (pc := 5) g dX3_serves_5 (by decide) ?_
    refine j_icmp_ge (tgt := 23) (pc := 7) g dX3_serves_7 (by decide) (fun c_7 => ?_) (fun c_7 => ?_)
    · have hf := gx_it c_7 hf
      refine j_iconst (v := 0) (pc := 23) g dX3_serves_23 (by decide) ?_
      exact hE _ _ _ hf dX3_serves_24 rfl
    · have hf := gx_if c_7 hf
      refine j_aload_n (pc := 10) g 0 dX3_serves_10 rfl ?_
      refine gO_X3_0_4 (σ := σ) (pc := 11) g dX3_serves_11 ?_
      refine j_iload_n (pc := 14) g 1 dX3_serves_14 rfl ?_
      obtain ⟨h_15, hf⟩ := gx_ck hf
      refine lO_X3_0_4 (σ := σ) (pc := 15) g h_15 dX3_serves_15 ?_
      refine j_if_eq (tgt := 23) (pc := 16) g dX3_serves_16 (by decide) (fun c_16 => ?_) (fun c_16 => ?_)
      · have hf := gx_it c_16 hf
        refine j_iconst (v := 0) (pc := 23) g dX3_serves_23 (by decide) ?_
        exact hE _ _ _ hf dX3_serves_24 rfl
      · have hf := gx_if c_16 hf
        refine j_iconst (v := 1) (pc := 19) g dX3_serves_19 (by decide) ?_
        refine j_goto (tgt := 24) (pc := 20) g dX3_serves_20 (by decide) ?_
        exact hE _ _ _ hf dX3_serves_24 rfl
theorem gO_X3_0_5 {D : va_G} {t : Nat → ClassId} {aa : gx_AA} {l : Launch} {R : Room} {cc : ByteArray} {nL : Nat} {J : gx_J} {ad : Nat → Nat} {rs : va_W} {k n pc : Nat} {L : List (Nat × Value)} {st : List Value} (g : gx_G D t (gx_E0 aa) l R cc RX3 nL J) {σ : OS} (hd : decode cc pc = .ok (.getfield 28, 3)) (kk : J k n (oC ad t σ ++ rs) (pc + 3) L (.int (os_f σ 5) :: st)) : J k n (oC ad t σ ++ rs) pc L (.ref (ad 0) :: st) := j_get g in_X3 0 rfl rfl 5 (by decide) q_f_X3_28 rfl rfl hd kk
theorem gO_X3_0_0 {D : va_G} {t : Nat → ClassId} {aa : gx_AA} {l : Launch} {R : Room} {cc : ByteArray} {nL : Nat} {J : gx_J} {ad : Nat → Nat} {rs : va_W} {k n pc : Nat} {L : List (Nat × Value)} {st : List Value} (g : gx_G D t (gx_E0 aa) l R cc RX3 nL J) {σ : OS} (hd : decode cc pc = .ok (.getfield 9, 3)) (kk : J k n (oC ad t σ ++ rs) (pc + 3) L (.ref (ad 1) :: st)) : J k n (oC ad t σ ++ rs) pc L (.ref (ad 0) :: st) := j_get g in_X3 0 rfl rfl 0 (by decide) q_f_X3_9 rfl rfl hd kk
theorem sO_X3_0_0 {D : va_G} {t : Nat → ClassId} {aa : gx_AA} {l : Launch} {R : Room} {cc : ByteArray} {nL : Nat} {J : gx_J} {ad : Nat → Nat} {rs : va_W} {k n pc : Nat} {L : List (Nat × Value)} {st : List Value} (g : gx_G D t (gx_E0 aa) l R cc RX3 nL J) {σ : OS} {i x : Int32} (hin : gx_in i 12) (hd : decode cc pc = .ok (.iastore, 1)) (kk : J k n (oC ad t (os_sa σ 0 i.toNatClampNeg x) ++ rs) (pc + 1) L st) : J k n (oC ad t σ ++ rs) pc L (.int x :: .int i :: .ref (ad 1) :: st) := j_iast (w' := oC ad t (os_sa σ 0 i.toNatClampNeg x) ++ rs) g 1 rfl hin rfl hd kk
theorem gO_X3_0_1 {D : va_G} {t : Nat → ClassId} {aa : gx_AA} {l : Launch} {R : Room} {cc : ByteArray} {nL : Nat} {J : gx_J} {ad : Nat → Nat} {rs : va_W} {k n pc : Nat} {L : List (Nat × Value)} {st : List Value} (g : gx_G D t (gx_E0 aa) l R cc RX3 nL J) {σ : OS} (hd : decode cc pc = .ok (.getfield 15, 3)) (kk : J k n (oC ad t σ ++ rs) (pc + 3) L (.ref (ad 2) :: st)) : J k n (oC ad t σ ++ rs) pc L (.ref (ad 0) :: st) := j_get g in_X3 0 rfl rfl 1 (by decide) q_f_X3_15 rfl rfl hd kk
theorem sO_X3_0_1 {D : va_G} {t : Nat → ClassId} {aa : gx_AA} {l : Launch} {R : Room} {cc : ByteArray} {nL : Nat} {J : gx_J} {ad : Nat → Nat} {rs : va_W} {k n pc : Nat} {L : List (Nat × Value)} {st : List Value} (g : gx_G D t (gx_E0 aa) l R cc RX3 nL J) {σ : OS} {i x : Int32} (hin : gx_in i 12) (hd : decode cc pc = .ok (.iastore, 1)) (kk : J k n (oC ad t (os_sa σ 1 i.toNatClampNeg x) ++ rs) (pc + 1) L st) : J k n (oC ad t σ ++ rs) pc L (.int x :: .int i :: .ref (ad 2) :: st) := j_iast (w' := oC ad t (os_sa σ 1 i.toNatClampNeg x) ++ rs) g 2 rfl hin rfl hd kk
theorem gO_X3_0_2 {D : va_G} {t : Nat → ClassId} {aa : gx_AA} {l : Launch} {R : Room} {cc : ByteArray} {nL : Nat} {J : gx_J} {ad : Nat → Nat} {rs : va_W} {k n pc : Nat} {L : List (Nat × Value)} {st : List Value} (g : gx_G D t (gx_E0 aa) l R cc RX3 nL J) {σ : OS} (hd : decode cc pc = .ok (.getfield 18, 3)) (kk : J k n (oC ad t σ ++ rs) (pc + 3) L (.ref (ad 3) :: st)) : J k n (oC ad t σ ++ rs) pc L (.ref (ad 0) :: st) := j_get g in_X3 0 rfl rfl 2 (by decide) q_f_X3_18 rfl rfl hd kk
theorem sO_X3_0_2 {D : va_G} {t : Nat → ClassId} {aa : gx_AA} {l : Launch} {R : Room} {cc : ByteArray} {nL : Nat} {J : gx_J} {ad : Nat → Nat} {rs : va_W} {k n pc : Nat} {L : List (Nat × Value)} {st : List Value} (g : gx_G D t (gx_E0 aa) l R cc RX3 nL J) {σ : OS} {i x : Int32} (hin : gx_in i 12) (hd : decode cc pc = .ok (.iastore, 1)) (kk : J k n (oC ad t (os_sa σ 2 i.toNatClampNeg x) ++ rs) (pc + 1) L st) : J k n (oC ad t σ ++ rs) pc L (.int x :: .int i :: .ref (ad 3) :: st) := j_iast (w' := oC ad t (os_sa σ 2 i.toNatClampNeg x) ++ rs) g 3 rfl hin rfl hd kk
theorem gO_X3_0_3 {D : va_G} {t : Nat → ClassId} {aa : gx_AA} {l : Launch} {R : Room} {cc : ByteArray} {nL : Nat} {J : gx_J} {ad : Nat → Nat} {rs : va_W} {k n pc : Nat} {L : List (Nat × Value)} {st : List Value} (g : gx_G D t (gx_E0 aa) l R cc RX3 nL J) {σ : OS} (hd : decode cc pc = .ok (.getfield 21, 3)) (kk : J k n (oC ad t σ ++ rs) (pc + 3) L (.ref (ad 4) :: st)) : J k n (oC ad t σ ++ rs) pc L (.ref (ad 0) :: st) := j_get g in_X3 0 rfl rfl 3 (by decide) q_f_X3_21 rfl rfl hd kk
theorem sO_X3_0_3 {D : va_G} {t : Nat → ClassId} {aa : gx_AA} {l : Launch} {R : Room} {cc : ByteArray} {nL : Nat} {J : gx_J} {ad : Nat → Nat} {rs : va_W} {k n pc : Nat} {L : List (Nat × Value)} {st : List Value} (g : gx_G D t (gx_E0 aa) l R cc RX3 nL J) {σ : OS} {i x : Int32} (hin : gx_in i 12) (hd : decode cc pc = .ok (.iastore, 1)) (kk : J k n (oC ad t (os_sa σ 3 i.toNatClampNeg x) ++ rs) (pc + 1) L st) : J k n (oC ad t σ ++ rs) pc L (.int x :: .int i :: .ref (ad 4) :: st) := j_iast (w' := oC ad t (os_sa σ 3 i.toNatClampNeg x) ++ rs) g 4 rfl hin rfl hd kk
theorem sO_X3_0_4 {D : va_G} {t : Nat → ClassId} {aa : gx_AA} {l : Launch} {R : Room} {cc : ByteArray} {nL : Nat} {J : gx_J} {ad : Nat → Nat} {rs : va_W} {k n pc : Nat} {L : List (Nat × Value)} {st : List Value} (g : gx_G D t (gx_E0 aa) l R cc RX3 nL J) {σ : OS} {i x : Int32} (hin : gx_in i 12) (hd : decode cc pc = .ok (.bastore, 1)) (kk : J k n (oC ad t (os_sa σ 4 i.toNatClampNeg (vp_nar .boolean x)) ++ rs) (pc + 1) L st) : J k n (oC ad t σ ++ rs) pc L (.int x :: .int i :: .ref (ad 5) :: st) := j_zast (w' := oC ad t (os_sa σ 4 i.toNatClampNeg (vp_nar .boolean x)) ++ rs) g 5 rfl hin rfl hd kk
theorem pO_X3_0_5 {D : va_G} {t : Nat → ClassId} {aa : gx_AA} {l : Launch} {R : Room} {cc : ByteArray} {nL : Nat} {J : gx_J} {ad : Nat → Nat} {rs : va_W} {k n pc : Nat} {L : List (Nat × Value)} {st : List Value} (g : gx_G D t (gx_E0 aa) l R cc RX3 nL J) {σ : OS} {v : Int32} (hd : decode cc pc = .ok (.putfield 28, 3)) (kk : J k n (oC ad t (os_sf σ 5 v) ++ rs) (pc + 3) L st) : J k n (oC ad t σ ++ rs) pc L (.int v :: .ref (ad 0) :: st) := j_put (w' := oC ad t (os_sf σ 5 v) ++ rs) g in_X3 0 rfl rfl 5 (by decide) q_f_X3_28 rfl tyX3 tyX3_ok nmX3 rfl (ty := .int) (by decide +kernel) rfl rfl (Nat.le_of_ble_eq_true rfl) rfl hd kk
set_option maxRecDepth 100000 in
set_option maxHeartbeats 4000000 in
theorem cX3_add_ {D : va_G} {t : Nat → ClassId} {aa : gx_AA} {l : Launch} {ad : Nat → Nat} {rs : va_W} {σ : OS} {p1 : Int32} {p2 : Int32} {p3 : Int32} {q : (Int32 × OS)} (hf : fX3_add σ p1 p2 p3 = some q) : gx_C D t (gx_E0 aa) l yX3_add cX3_add 5 (some .int) 0 0 [.ref (ad 0), .int p1, .int p2, .int p3] (oC ad t σ ++ rs) (oC ad t q.2 ++ rs) (some (.int q.1)) := by
  refine gx_intro_i (by decide) (Nat.le_of_ble_eq_true rfl) (fun J g hE0 => ?_)
  have hE : ∀ (v : Int32) (σ : OS) (pc : Nat) (L : List (Nat × Value)), some (v, σ) = some q → decode cX3_add pc = .ok (.ireturn, 1) → narrow .int (.int v) = .int v → J 0 0 (oC ad t σ ++ rs) pc L [.int v] := fun v σ pc L h h1 h2 => by cases h; exact hE0 pc L h1 h2
  unfold fX3_add at hf
  show J 0 0 (oC ad t σ ++ rs) 0 [(0, .ref (ad 0)), (1, .int p1), (2, .int p2), (3, .int p3)] []
  refine j_aload_n (pc := 0) g 0 dX3_add_0 rfl ?_
  refine gO_X3_0_5 (σ := σ) (pc := 1) g dX3_add_1 ?_
  refine j_istore (L' := [(4, .int (os_f σ 5)), (0, .ref (ad 0)), (1, .int p1), (2, .int p2), (3, .int p3)]) (pc := 4) g dX3_add_4 (Nat.le_of_ble_eq_true rfl) rfl ?_
  refine j_aload_n (pc := 6) g 1 dX3_add_6 rfl ?_
  refine gO_X3_0_0 (σ := σ) (pc := 7) g dX3_add_7 ?_
  refine j_iload (pc := 10) g 0 dX3_add_10 rfl ?_
  refine j_iload_n (pc := 12) g 3 dX3_add_12 rfl ?_
  obtain ⟨h_13, hf⟩ := gx_ck hf
  refine sO_X3_0_0 (σ := σ) (pc := 13) g h_13 dX3_add_13 ?_
  refine j_aload_n (pc := 14) g 1 dX3_add_14 rfl ?_
  refine gO_X3_0_1 (σ := os_sa σ 0 (os_f σ 5).toNatClampNeg p2) (pc := 15) g dX3_add_15 ?_
  refine j_iload (pc := 18) g 0 dX3_add_18 rfl ?_
  refine j_iload_n (pc := 20) g 4 dX3_add_20 rfl ?_
  obtain ⟨h_21, hf⟩ := gx_ck hf
  refine sO_X3_0_1 (σ := os_sa σ 0 (os_f σ 5).toNatClampNeg p2) (pc := 21) g h_21 dX3_add_21 ?_
  refine j_aload_n (pc := 22) g 1 dX3_add_22 rfl ?_
  refine gO_X3_0_2 (σ := os_sa (os_sa σ 0 (os_f σ 5).toNatClampNeg p2) 1 (os_f σ 5).toNatClampNeg p3) (pc := 23) g dX3_add_23 ?_
  refine j_iload (pc := 26) g 0 dX3_add_26 rfl ?_
  refine j_iconst (v := 0) (pc := 28) g dX3_add_28 (by decide) ?_
  obtain ⟨h_29, hf⟩ := gx_ck hf
  refine sO_X3_0_2 (σ := os_sa (os_sa σ 0 (os_f σ 5).toNatClampNeg p2) 1 (os_f σ 5).toNatClampNeg p3) (pc := 29) g h_29 dX3_add_29 ?_
  refine j_aload_n (pc := 30) g 1 dX3_add_30 rfl ?_
  refine gO_X3_0_3 (σ := os_sa (os_sa (os_sa σ 0 (os_f σ 5).toNatClampNeg p2) 1 (os_f σ 5).toNatClampNeg p3) 2 (os_f σ 5).toNatClampNeg (0 : Int32)) (pc := 31) g dX3_add_31 ?_
  refine j_iload (pc := 34) g 0 dX3_add_34 rfl ?_
  refine j_iload_n (pc := 36) g 2 dX3_add_36 rfl ?_
  obtain ⟨h_37, hf⟩ := gx_ck hf
  refine sO_X3_0_3 (σ := os_sa (os_sa (os_sa σ 0 (os_f σ 5).toNatClampNeg p2) 1 (os_f σ 5).toNatClampNeg p3) 2 (os_f σ 5).toNatClampNeg (0 : Int32)) (pc := 37) g h_37 dX3_add_37 ?_
  refine j_aload_n (pc := 38) g 1 dX3_add_38 rfl ?_
  refine gO_X3_0_4 (σ := os_sa (os_sa (os_sa (os_sa σ 0 (os_f σ 5).toNatClampNeg p2) 1 (os_f σ 5).toNatClampNeg p3) 2 (os_f σ 5).toNatClampNeg (0 : Int32)) 3 (os_f σ 5).toNatClampNeg p1) (pc := 39) g dX3_add_39 ?_
  refine j_iload (pc := 42) g 0 dX3_add_42 rfl ?_
  refine j_iconst (v := 1) (pc := 44) g dX3_add_44 (by decide) ?_
  obtain ⟨h_45, hf⟩ := gx_ck hf
  refine sO_X3_0_4 (σ := os_sa (os_sa (os_sa (os_sa σ 0 (os_f σ 5).toNatClampNeg p2) 1 (os_f σ 5).toNatClampNeg p3) 2 (os_f σ 5).toNatClampNeg (0 : Int32)) 3 (os_f σ 5).toNatClampNeg p1) (pc := 45) g h_45 dX3_add_45 ?_
  refine j_aload_n (pc := 46) g 1 dX3_add_46 rfl ?_
  refine j_dup (pc := 47) g dX3_add_47 rfl ?_
  refine gO_X3_0_5 (σ := os_sa (os_sa (os_sa (os_sa (os_sa σ 0 (os_f σ 5).toNatClampNeg p2) 1 (os_f σ 5).toNatClampNeg p3) 2 (os_f σ 5).toNatClampNeg (0 : Int32)) 3 (os_f σ 5).toNatClampNeg p1) 4 (os_f σ 5).toNatClampNeg (vp_nar .boolean (1 : Int32))) (pc := 48) g dX3_add_48 ?_
  refine j_iconst (v := 1) (pc := 51) g dX3_add_51 (by decide) ?_
  refine j_iadd (pc := 52) g dX3_add_52 ?_
  refine pO_X3_0_5 (σ := os_sa (os_sa (os_sa (os_sa (os_sa σ 0 (os_f σ 5).toNatClampNeg p2) 1 (os_f σ 5).toNatClampNeg p3) 2 (os_f σ 5).toNatClampNeg (0 : Int32)) 3 (os_f σ 5).toNatClampNeg p1) 4 (os_f σ 5).toNatClampNeg (vp_nar .boolean (1 : Int32))) (pc := 53) g dX3_add_53 ?_
  refine j_iload (pc := 56) g 0 dX3_add_56 rfl ?_
  exact hE _ _ _ _ hf dX3_add_58 rfl
theorem lO_X3_0_3 {D : va_G} {t : Nat → ClassId} {aa : gx_AA} {l : Launch} {R : Room} {cc : ByteArray} {nL : Nat} {J : gx_J} {ad : Nat → Nat} {rs : va_W} {k n pc : Nat} {L : List (Nat × Value)} {st : List Value} (g : gx_G D t (gx_E0 aa) l R cc RX3 nL J) {σ : OS} {i : Int32} (hin : gx_in i 12) (hd : decode cc pc = .ok (.iaload, 1)) (kk : J k n (oC ad t σ ++ rs) (pc + 1) L (.int (os_a σ 3 i.toNatClampNeg) :: st)) : J k n (oC ad t σ ++ rs) pc L (.int i :: .ref (ad 4) :: st) := j_iald g 4 rfl hin hd kk
set_option maxRecDepth 100000 in
set_option maxHeartbeats 4000000 in
theorem tX3_remove_2 {D : va_G} {t : Nat → ClassId} {aa : gx_AA} {l : Launch} {J : gx_J} {ad : Nat → Nat} {rs : va_W} {q : OS} (g : gx_G D t (gx_E0 aa) l ({ frames := 0, cells := 0, slots := 0, locals := 0 }) cX3_remove RX3 3 J) (hE : ∀ (σ : OS) (pc : Nat) (L : List (Nat × Value)), some σ = some q → decode cX3_remove pc = .ok (.return_, 1) → J 0 0 (oC ad t σ ++ rs) pc L [])  : ∀ (n : Nat) (σ : OS) (v1 : Int32) (v2 : Int32), fX3_remove_2 n σ v1 v2 = some q → J 0 0 (oC ad t σ ++ rs) 2 [(0, .ref (ad 0)), (1, .int v1), (2, .int v2)] [] := by
  intro n
  induction n with
  | zero => intro σ v1 v2 hf; cases hf
  | succ n ih =>
    intro σ v1 v2 hf
    replace hf := (fX3_remove_2_s n σ v1 v2).symm.trans hf
    refine j_iload_n (pc := 2) g 2 dX3_remove_2 rfl ?_
    refine j_aload_n (pc := 3) g 0 dX3_remove_3 rfl ?_
    refine gO_X3_0_5 (σ := σ) (pc := 4) g dX3_remove_4 ?_
    refine j_icmp_ge (tgt := 38) (pc := 7) g dX3_remove_7 (by decide) (fun c_7 => ?_) (fun c_7 => ?_)
    · have hf := gx_it c_7 hf
      refine j_aload_n (pc := 38) g 0 dX3_remove_38 rfl ?_
      refine gO_X3_0_3 (σ := σ) (pc := 39) g dX3_remove_39 ?_
      refine j_iload_n (pc := 42) g 1 dX3_remove_42 rfl ?_
      refine j_iconst (v := -1) (pc := 43) g dX3_remove_43 (by decide) ?_
      obtain ⟨h_44, hf⟩ := gx_ck hf
      refine sO_X3_0_3 (σ := σ) (pc := 44) g h_44 dX3_remove_44 ?_
      refine j_aload_n (pc := 45) g 0 dX3_remove_45 rfl ?_
      refine gO_X3_0_4 (σ := os_sa σ 3 v1.toNatClampNeg (-1 : Int32)) (pc := 46) g dX3_remove_46 ?_
      refine j_iload_n (pc := 49) g 1 dX3_remove_49 rfl ?_
      refine j_iconst (v := 0) (pc := 50) g dX3_remove_50 (by decide) ?_
      obtain ⟨h_51, hf⟩ := gx_ck hf
      refine sO_X3_0_4 (σ := os_sa σ 3 v1.toNatClampNeg (-1 : Int32)) (pc := 51) g h_51 dX3_remove_51 ?_
      exact hE _ _ _ hf dX3_remove_52
    · have hf := gx_if c_7 hf
      refine j_aload_n (pc := 10) g 0 dX3_remove_10 rfl ?_
      refine gO_X3_0_3 (σ := σ) (pc := 11) g dX3_remove_11 ?_
      refine j_iload_n (pc := 14) g 2 dX3_remove_14 rfl ?_
      obtain ⟨h_15, hf⟩ := gx_ck hf
      refine lO_X3_0_3 (σ := σ) (pc := 15) g h_15 dX3_remove_15 ?_
      refine j_iload_n (pc := 16) g 1 dX3_remove_16 rfl ?_
      refine j_icmp_ne (tgt := 32) (pc := 17) g dX3_remove_17 (by decide) (fun c_17 => ?_) (fun c_17 => ?_)
      · have hf := gx_if c_17 hf
        refine j_iinc (v := v2 + 1) (L' := [(2, .int (v2 + 1)), (0, .ref (ad 0)), (1, .int v1)]) (pc := 32) g 2 dX3_remove_32 rfl rfl (Nat.le_of_ble_eq_true rfl) rfl ?_
        refine j_goto (tgt := 2) (pc := 35) g dX3_remove_35 (by decide) ?_
        refine j_sub (pc := 2) g [1, 2, 0] rfl ?_
        exact ih σ v1 (v2 + 1) hf
      · have hf := gx_it c_17 hf
        refine j_aload_n (pc := 20) g 0 dX3_remove_20 rfl ?_
        refine gO_X3_0_3 (σ := σ) (pc := 21) g dX3_remove_21 ?_
        refine j_iload_n (pc := 24) g 2 dX3_remove_24 rfl ?_
        refine j_aload_n (pc := 25) g 0 dX3_remove_25 rfl ?_
        refine gO_X3_0_3 (σ := σ) (pc := 26) g dX3_remove_26 ?_
        refine j_iload_n (pc := 29) g 1 dX3_remove_29 rfl ?_
        obtain ⟨h_30, hf⟩ := gx_ck hf
        refine lO_X3_0_3 (σ := σ) (pc := 30) g h_30 dX3_remove_30 ?_
        obtain ⟨h_31, hf⟩ := gx_ck hf
        refine sO_X3_0_3 (σ := σ) (pc := 31) g h_31 dX3_remove_31 ?_
        refine j_iinc (v := v2 + 1) (L' := [(2, .int (v2 + 1)), (0, .ref (ad 0)), (1, .int v1)]) (pc := 32) g 2 dX3_remove_32 rfl rfl (Nat.le_of_ble_eq_true rfl) rfl ?_
        refine j_goto (tgt := 2) (pc := 35) g dX3_remove_35 (by decide) ?_
        refine j_sub (pc := 2) g [1, 2, 0] rfl ?_
        exact ih (os_sa σ 3 v2.toNatClampNeg (os_a σ 3 v1.toNatClampNeg)) v1 (v2 + 1) hf
set_option maxRecDepth 100000 in
set_option maxHeartbeats 4000000 in
theorem cX3_remove_ {D : va_G} {t : Nat → ClassId} {aa : gx_AA} {l : Launch} {ad : Nat → Nat} {rs : va_W} {σ : OS} {p1 : Int32} {q : OS} (hf : fX3_remove σ p1 = some q) : gx_C D t (gx_E0 aa) l yX3_remove cX3_remove 3 none 0 0 [.ref (ad 0), .int p1] (oC ad t σ ++ rs) (oC ad t q ++ rs) none := by
  refine gx_intro_v (by decide) (Nat.le_of_ble_eq_true rfl) (fun J g hE0 => ?_)
  have hE : ∀ (σ : OS) (pc : Nat) (L : List (Nat × Value)), some σ = some q → decode cX3_remove pc = .ok (.return_, 1) → J 0 0 (oC ad t σ ++ rs) pc L [] := fun σ pc L h h1 => by cases h; exact hE0 pc L h1
  unfold fX3_remove at hf
  show J 0 0 (oC ad t σ ++ rs) 0 [(0, .ref (ad 0)), (1, .int p1)] []
  refine j_iconst (v := 0) (pc := 0) g dX3_remove_0 (by decide) ?_
  refine j_istore_n (L' := [(2, .int (0 : Int32)), (0, .ref (ad 0)), (1, .int p1)]) (pc := 1) g dX3_remove_1 rfl (Nat.le_of_ble_eq_true rfl) rfl ?_
  refine j_sub (pc := 2) g [1, 2, 0] rfl ?_
  exact tX3_remove_2 g hE 2000 σ p1 (0 : Int32) hf

set_option maxRecDepth 100000 in
set_option maxHeartbeats 4000000 in
theorem tX3_countServing_4 {D : va_G} {t : Nat → ClassId} {aa : gx_AA} {l : Launch} {J : gx_J} {ad : Nat → Nat} {rs : va_W} {σ : OS} {q : Int32} (g : gx_G D t (gx_E0 aa) l ({ frames := 0, cells := 0, slots := 0, locals := 0 }) cX3_countServing RX3 3 J) (hE : ∀ (v : Int32) (pc : Nat) (L : List (Nat × Value)), some v = some q → decode cX3_countServing pc = .ok (.ireturn, 1) → narrow .int (.int v) = .int v → J 0 0 (oC ad t σ ++ rs) pc L [.int v])  : ∀ (n : Nat) (v1 : Int32) (v2 : Int32), fX3_countServing_4 σ n v1 v2 = some q → J 0 0 (oC ad t σ ++ rs) 4 [(0, .ref (ad 0)), (1, .int v1), (2, .int v2)] [] := by
  intro n
  induction n with
  | zero => intro v1 v2 hf; cases hf
  | succ n ih =>
    intro v1 v2 hf
    replace hf := (fX3_countServing_4_s σ n v1 v2).symm.trans hf
    refine j_iload_n (pc := 4) g 2 dX3_countServing_4 rfl ?_
    refine j_aload_n (pc := 5) g 0 dX3_countServing_5 rfl ?_
    refine gO_X3_0_5 (σ := σ) (pc := 6) g dX3_countServing_6 ?_
    refine j_icmp_ge (tgt := 30) (pc := 9) g dX3_countServing_9 (by decide) (fun c_9 => ?_) (fun c_9 => ?_)
    · have hf := gx_it c_9 hf
      refine j_iload_n (pc := 30) g 1 dX3_countServing_30 rfl ?_
      exact hE _ _ _ hf dX3_countServing_31 rfl
    · have hf := gx_if c_9 hf
      refine j_aload_n (pc := 12) g 0 dX3_countServing_12 rfl ?_
      refine gO_X3_0_4 (σ := σ) (pc := 13) g dX3_countServing_13 ?_
      refine j_iload_n (pc := 16) g 2 dX3_countServing_16 rfl ?_
      obtain ⟨h_17, hf⟩ := gx_ck hf
      refine lO_X3_0_4 (σ := σ) (pc := 17) g h_17 dX3_countServing_17 ?_
      refine j_if_eq (tgt := 24) (pc := 18) g dX3_countServing_18 (by decide) (fun c_18 => ?_) (fun c_18 => ?_)
      · have hf := gx_it c_18 hf
        refine j_iinc (v := v2 + 1) (L' := [(2, .int (v2 + 1)), (0, .ref (ad 0)), (1, .int v1)]) (pc := 24) g 2 dX3_countServing_24 rfl rfl (Nat.le_of_ble_eq_true rfl) rfl ?_
        refine j_goto (tgt := 4) (pc := 27) g dX3_countServing_27 (by decide) ?_
        refine j_sub (pc := 4) g [1, 2, 0] rfl ?_
        exact ih v1 (v2 + 1) hf
      · have hf := gx_if c_18 hf
        refine j_iinc (v := v1 + 1) (L' := [(1, .int (v1 + 1)), (0, .ref (ad 0)), (2, .int v2)]) (pc := 21) g 1 dX3_countServing_21 rfl rfl (Nat.le_of_ble_eq_true rfl) rfl ?_
        refine j_iinc (v := v2 + 1) (L' := [(2, .int (v2 + 1)), (1, .int (v1 + 1)), (0, .ref (ad 0))]) (pc := 24) g 2 dX3_countServing_24 rfl rfl (Nat.le_of_ble_eq_true rfl) rfl ?_
        refine j_goto (tgt := 4) (pc := 27) g dX3_countServing_27 (by decide) ?_
        refine j_sub (pc := 4) g [2, 1, 0] rfl ?_
        exact ih (v1 + 1) (v2 + 1) hf
set_option maxRecDepth 100000 in
set_option maxHeartbeats 4000000 in
theorem cX3_countServing_ {D : va_G} {t : Nat → ClassId} {aa : gx_AA} {l : Launch} {ad : Nat → Nat} {rs : va_W} {σ : OS} {q : Int32} (hf : fX3_countServing σ = some q) : gx_C D t (gx_E0 aa) l yX3_countServing cX3_countServing 3 (some .int) 0 0 [.ref (ad 0)] (oC ad t σ ++ rs) (oC ad t σ ++ rs) (some (.int q)) := by
  refine gx_intro_i (by decide) (Nat.le_of_ble_eq_true rfl) (fun J g hE0 => ?_)
  have hE : ∀ (v : Int32) (pc : Nat) (L : List (Nat × Value)), some v = some q → decode cX3_countServing pc = .ok (.ireturn, 1) → narrow .int (.int v) = .int v → J 0 0 (oC ad t σ ++ rs) pc L [.int v] := fun v pc L h h1 h2 => by cases h; exact hE0 pc L h1 h2
  unfold fX3_countServing at hf
  show J 0 0 (oC ad t σ ++ rs) 0 [(0, .ref (ad 0))] []
  refine j_iconst (v := 0) (pc := 0) g dX3_countServing_0 (by decide) ?_
  refine j_istore_n (L' := [(1, .int (0 : Int32)), (0, .ref (ad 0))]) (pc := 1) g dX3_countServing_1 rfl (Nat.le_of_ble_eq_true rfl) rfl ?_
  refine j_iconst (v := 0) (pc := 2) g dX3_countServing_2 (by decide) ?_
  refine j_istore_n (L' := [(2, .int (0 : Int32)), (1, .int (0 : Int32)), (0, .ref (ad 0))]) (pc := 3) g dX3_countServing_3 rfl (Nat.le_of_ble_eq_true rfl) rfl ?_
  refine j_sub (pc := 4) g [2, 1, 0] rfl ?_
  exact tX3_countServing_4 g hE 2000 (0 : Int32) (0 : Int32) hf
theorem lO_X3_0_1 {D : va_G} {t : Nat → ClassId} {aa : gx_AA} {l : Launch} {R : Room} {cc : ByteArray} {nL : Nat} {J : gx_J} {ad : Nat → Nat} {rs : va_W} {k n pc : Nat} {L : List (Nat × Value)} {st : List Value} (g : gx_G D t (gx_E0 aa) l R cc RX3 nL J) {σ : OS} {i : Int32} (hin : gx_in i 12) (hd : decode cc pc = .ok (.iaload, 1)) (kk : J k n (oC ad t σ ++ rs) (pc + 1) L (.int (os_a σ 1 i.toNatClampNeg) :: st)) : J k n (oC ad t σ ++ rs) pc L (.int i :: .ref (ad 2) :: st) := j_iald g 2 rfl hin hd kk
set_option maxRecDepth 100000 in
set_option maxHeartbeats 4000000 in
theorem tX3_sumLoyalty_4 {D : va_G} {t : Nat → ClassId} {aa : gx_AA} {l : Launch} {J : gx_J} {ad : Nat → Nat} {rs : va_W} {σ : OS} {q : Int32} (g : gx_G D t (gx_E0 aa) l ({ frames := 0, cells := 0, slots := 0, locals := 0 }) cX3_sumLoyalty RX3 3 J) (hE : ∀ (v : Int32) (pc : Nat) (L : List (Nat × Value)), some v = some q → decode cX3_sumLoyalty pc = .ok (.ireturn, 1) → narrow .int (.int v) = .int v → J 0 0 (oC ad t σ ++ rs) pc L [.int v])  : ∀ (n : Nat) (v1 : Int32) (v2 : Int32), fX3_sumLoyalty_4 σ n v1 v2 = some q → J 0 0 (oC ad t σ ++ rs) 4 [(0, .ref (ad 0)), (1, .int v1), (2, .int v2)] [] := by
  intro n
  induction n with
  | zero => intro v1 v2 hf; cases hf
  | succ n ih =>
    intro v1 v2 hf
    replace hf := (fX3_sumLoyalty_4_s σ n v1 v2).symm.trans hf
    refine j_iload_n (pc := 4) g 2 dX3_sumLoyalty_4 rfl ?_
    refine j_aload_n (pc := 5) g 0 dX3_sumLoyalty_5 rfl ?_
    refine gO_X3_0_5 (σ := σ) (pc := 6) g dX3_sumLoyalty_6 ?_
    refine j_icmp_ge (tgt := 36) (pc := 9) g dX3_sumLoyalty_9 (by decide) (fun c_9 => ?_) (fun c_9 => ?_)
    · have hf := gx_it c_9 hf
      refine j_iload_n (pc := 36) g 1 dX3_sumLoyalty_36 rfl ?_
      exact hE _ _ _ hf dX3_sumLoyalty_37 rfl
    · have hf := gx_if c_9 hf
      refine j_aload_n (pc := 12) g 0 dX3_sumLoyalty_12 rfl ?_
      refine gO_X3_0_4 (σ := σ) (pc := 13) g dX3_sumLoyalty_13 ?_
      refine j_iload_n (pc := 16) g 2 dX3_sumLoyalty_16 rfl ?_
      obtain ⟨h_17, hf⟩ := gx_ck hf
      refine lO_X3_0_4 (σ := σ) (pc := 17) g h_17 dX3_sumLoyalty_17 ?_
      refine j_if_eq (tgt := 30) (pc := 18) g dX3_sumLoyalty_18 (by decide) (fun c_18 => ?_) (fun c_18 => ?_)
      · have hf := gx_it c_18 hf
        refine j_iinc (v := v2 + 1) (L' := [(2, .int (v2 + 1)), (0, .ref (ad 0)), (1, .int v1)]) (pc := 30) g 2 dX3_sumLoyalty_30 rfl rfl (Nat.le_of_ble_eq_true rfl) rfl ?_
        refine j_goto (tgt := 4) (pc := 33) g dX3_sumLoyalty_33 (by decide) ?_
        refine j_sub (pc := 4) g [1, 2, 0] rfl ?_
        exact ih v1 (v2 + 1) hf
      · have hf := gx_if c_18 hf
        refine j_iload_n (pc := 21) g 1 dX3_sumLoyalty_21 rfl ?_
        refine j_aload_n (pc := 22) g 0 dX3_sumLoyalty_22 rfl ?_
        refine gO_X3_0_1 (σ := σ) (pc := 23) g dX3_sumLoyalty_23 ?_
        refine j_iload_n (pc := 26) g 2 dX3_sumLoyalty_26 rfl ?_
        obtain ⟨h_27, hf⟩ := gx_ck hf
        refine lO_X3_0_1 (σ := σ) (pc := 27) g h_27 dX3_sumLoyalty_27 ?_
        refine j_iadd (pc := 28) g dX3_sumLoyalty_28 ?_
        refine j_istore_n (L' := [(1, .int (v1 + (os_a σ 1 v2.toNatClampNeg))), (0, .ref (ad 0)), (2, .int v2)]) (pc := 29) g dX3_sumLoyalty_29 rfl (Nat.le_of_ble_eq_true rfl) rfl ?_
        refine j_iinc (v := v2 + 1) (L' := [(2, .int (v2 + 1)), (1, .int (v1 + (os_a σ 1 v2.toNatClampNeg))), (0, .ref (ad 0))]) (pc := 30) g 2 dX3_sumLoyalty_30 rfl rfl (Nat.le_of_ble_eq_true rfl) rfl ?_
        refine j_goto (tgt := 4) (pc := 33) g dX3_sumLoyalty_33 (by decide) ?_
        refine j_sub (pc := 4) g [2, 1, 0] rfl ?_
        exact ih (v1 + (os_a σ 1 v2.toNatClampNeg)) (v2 + 1) hf
set_option maxRecDepth 100000 in
set_option maxHeartbeats 4000000 in
theorem cX3_sumLoyalty_ {D : va_G} {t : Nat → ClassId} {aa : gx_AA} {l : Launch} {ad : Nat → Nat} {rs : va_W} {σ : OS} {q : Int32} (hf : fX3_sumLoyalty σ = some q) : gx_C D t (gx_E0 aa) l yX3_sumLoyalty cX3_sumLoyalty 3 (some .int) 0 0 [.ref (ad 0)] (oC ad t σ ++ rs) (oC ad t σ ++ rs) (some (.int q)) := by
  refine gx_intro_i (by decide) (Nat.le_of_ble_eq_true rfl) (fun J g hE0 => ?_)
  have hE : ∀ (v : Int32) (pc : Nat) (L : List (Nat × Value)), some v = some q → decode cX3_sumLoyalty pc = .ok (.ireturn, 1) → narrow .int (.int v) = .int v → J 0 0 (oC ad t σ ++ rs) pc L [.int v] := fun v pc L h h1 h2 => by cases h; exact hE0 pc L h1 h2
  unfold fX3_sumLoyalty at hf
  show J 0 0 (oC ad t σ ++ rs) 0 [(0, .ref (ad 0))] []
  refine j_iconst (v := 0) (pc := 0) g dX3_sumLoyalty_0 (by decide) ?_
  refine j_istore_n (L' := [(1, .int (0 : Int32)), (0, .ref (ad 0))]) (pc := 1) g dX3_sumLoyalty_1 rfl (Nat.le_of_ble_eq_true rfl) rfl ?_
  refine j_iconst (v := 0) (pc := 2) g dX3_sumLoyalty_2 (by decide) ?_
  refine j_istore_n (L' := [(2, .int (0 : Int32)), (1, .int (0 : Int32)), (0, .ref (ad 0))]) (pc := 3) g dX3_sumLoyalty_3 rfl (Nat.le_of_ble_eq_true rfl) rfl ?_
  refine j_sub (pc := 4) g [2, 1, 0] rfl ?_
  exact tX3_sumLoyalty_4 g hE 2000 (0 : Int32) (0 : Int32) hf

set_option maxRecDepth 100000 in
set_option maxHeartbeats 4000000 in
theorem tX3_countSubordinates_4 {D : va_G} {t : Nat → ClassId} {aa : gx_AA} {l : Launch} {J : gx_J} {ad : Nat → Nat} {rs : va_W} {σ : OS} {q : Int32} (g : gx_G D t (gx_E0 aa) l ({ frames := 0, cells := 0, slots := 0, locals := 0 }) cX3_countSubordinates RX3 4 J) (hE : ∀ (v : Int32) (pc : Nat) (L : List (Nat × Value)), some v = some q → decode cX3_countSubordinates pc = .ok (.ireturn, 1) → narrow .int (.int v) = .int v → J 0 0 (oC ad t σ ++ rs) pc L [.int v])  : ∀ (n : Nat) (v1 : Int32) (v2 : Int32) (v3 : Int32), fX3_countSubordinates_4 σ n v1 v2 v3 = some q → J 0 0 (oC ad t σ ++ rs) 4 [(0, .ref (ad 0)), (1, .int v1), (2, .int v2), (3, .int v3)] [] := by
  intro n
  induction n with
  | zero => intro v1 v2 v3 hf; cases hf
  | succ n ih =>
    intro v1 v2 v3 hf
    replace hf := (fX3_countSubordinates_4_s σ n v1 v2 v3).symm.trans hf
    refine j_iload_n (pc := 4) g 3 dX3_countSubordinates_4 rfl ?_
    refine j_aload_n (pc := 5) g 0 dX3_countSubordinates_5 rfl ?_
    refine gO_X3_0_5 (σ := σ) (pc := 6) g dX3_countSubordinates_6 ?_
    refine j_icmp_ge (tgt := 31) (pc := 9) g dX3_countSubordinates_9 (by decide) (fun c_9 => ?_) (fun c_9 => ?_)
    · have hf := gx_it c_9 hf
      refine j_iload_n (pc := 31) g 2 dX3_countSubordinates_31 rfl ?_
      exact hE _ _ _ hf dX3_countSubordinates_32 rfl
    · have hf := gx_if c_9 hf
      refine j_aload_n (pc := 12) g 0 dX3_countSubordinates_12 rfl ?_
      refine gO_X3_0_3 (σ := σ) (pc := 13) g dX3_countSubordinates_13 ?_
      refine j_iload_n (pc := 16) g 3 dX3_countSubordinates_16 rfl ?_
      obtain ⟨h_17, hf⟩ := gx_ck hf
      refine lO_X3_0_3 (σ := σ) (pc := 17) g h_17 dX3_countSubordinates_17 ?_
      refine j_iload_n (pc := 18) g 1 dX3_countSubordinates_18 rfl ?_
      refine j_icmp_ne (tgt := 25) (pc := 19) g dX3_countSubordinates_19 (by decide) (fun c_19 => ?_) (fun c_19 => ?_)
      · have hf := gx_if c_19 hf
        refine j_iinc (v := v3 + 1) (L' := [(3, .int (v3 + 1)), (0, .ref (ad 0)), (1, .int v1), (2, .int v2)]) (pc := 25) g 3 dX3_countSubordinates_25 rfl rfl (Nat.le_of_ble_eq_true rfl) rfl ?_
        refine j_goto (tgt := 4) (pc := 28) g dX3_countSubordinates_28 (by decide) ?_
        refine j_sub (pc := 4) g [1, 2, 3, 0] rfl ?_
        exact ih v1 v2 (v3 + 1) hf
      · have hf := gx_it c_19 hf
        refine j_iinc (v := v2 + 1) (L' := [(2, .int (v2 + 1)), (0, .ref (ad 0)), (1, .int v1), (3, .int v3)]) (pc := 22) g 2 dX3_countSubordinates_22 rfl rfl (Nat.le_of_ble_eq_true rfl) rfl ?_
        refine j_iinc (v := v3 + 1) (L' := [(3, .int (v3 + 1)), (2, .int (v2 + 1)), (0, .ref (ad 0)), (1, .int v1)]) (pc := 25) g 3 dX3_countSubordinates_25 rfl rfl (Nat.le_of_ble_eq_true rfl) rfl ?_
        refine j_goto (tgt := 4) (pc := 28) g dX3_countSubordinates_28 (by decide) ?_
        refine j_sub (pc := 4) g [2, 3, 1, 0] rfl ?_
        exact ih v1 (v2 + 1) (v3 + 1) hf
set_option maxRecDepth 100000 in
set_option maxHeartbeats 4000000 in
theorem cX3_countSubordinates_ {D : va_G} {t : Nat → ClassId} {aa : gx_AA} {l : Launch} {ad : Nat → Nat} {rs : va_W} {σ : OS} {p1 : Int32} {q : Int32} (hf : fX3_countSubordinates σ p1 = some q) : gx_C D t (gx_E0 aa) l yX3_countSubordinates cX3_countSubordinates 4 (some .int) 0 0 [.ref (ad 0), .int p1] (oC ad t σ ++ rs) (oC ad t σ ++ rs) (some (.int q)) := by
  refine gx_intro_i (by decide) (Nat.le_of_ble_eq_true rfl) (fun J g hE0 => ?_)
  have hE : ∀ (v : Int32) (pc : Nat) (L : List (Nat × Value)), some v = some q → decode cX3_countSubordinates pc = .ok (.ireturn, 1) → narrow .int (.int v) = .int v → J 0 0 (oC ad t σ ++ rs) pc L [.int v] := fun v pc L h h1 h2 => by cases h; exact hE0 pc L h1 h2
  unfold fX3_countSubordinates at hf
  show J 0 0 (oC ad t σ ++ rs) 0 [(0, .ref (ad 0)), (1, .int p1)] []
  refine j_iconst (v := 0) (pc := 0) g dX3_countSubordinates_0 (by decide) ?_
  refine j_istore_n (L' := [(2, .int (0 : Int32)), (0, .ref (ad 0)), (1, .int p1)]) (pc := 1) g dX3_countSubordinates_1 rfl (Nat.le_of_ble_eq_true rfl) rfl ?_
  refine j_iconst (v := 0) (pc := 2) g dX3_countSubordinates_2 (by decide) ?_
  refine j_istore_n (L' := [(3, .int (0 : Int32)), (2, .int (0 : Int32)), (0, .ref (ad 0)), (1, .int p1)]) (pc := 3) g dX3_countSubordinates_3 rfl (Nat.le_of_ble_eq_true rfl) rfl ?_
  refine j_sub (pc := 4) g [2, 3, 1, 0] rfl ?_
  exact tX3_countSubordinates_4 g hE 2000 p1 (0 : Int32) (0 : Int32) hf

set_option maxRecDepth 100000 in
set_option maxHeartbeats 4000000 in
theorem tX3_climbDepth_9 {D : va_G} {t : Nat → ClassId} {aa : gx_AA} {l : Launch} {J : gx_J} {ad : Nat → Nat} {rs : va_W} {σ : OS} {q : Int32} (g : gx_G D t (gx_E0 aa) l ({ frames := 0, cells := 0, slots := 0, locals := 0 }) cX3_climbDepth RX3 4 J) (hE : ∀ (v : Int32) (pc : Nat) (L : List (Nat × Value)), some v = some q → decode cX3_climbDepth pc = .ok (.ireturn, 1) → narrow .int (.int v) = .int v → J 0 0 (oC ad t σ ++ rs) pc L [.int v])  : ∀ (n : Nat) (v2 : Int32) (v3 : Int32), fX3_climbDepth_9 σ n v2 v3 = some q → J 0 0 (oC ad t σ ++ rs) 9 [(0, .ref (ad 0)), (2, .int v2), (3, .int v3)] [] := by
  intro n
  induction n with
  | zero => intro v2 v3 hf; cases hf
  | succ n ih =>
    intro v2 v3 hf
    replace hf := (fX3_climbDepth_9_s σ n v2 v3).symm.trans hf
    refine j_iload_n (pc := 9) g 2 dX3_climbDepth_9 rfl ?_
    refine j_iconst (v := -1) (pc := 10) g dX3_climbDepth_10 (by decide) ?_
    refine j_icmp_eq (tgt := 33) (pc := 11) g dX3_climbDepth_11 (by decide) (fun c_11 => ?_) (fun c_11 => ?_)
    · have hf := gx_it c_11 hf
      refine j_iload_n (pc := 33) g 1 dX3_climbDepth_33 rfl ?_
      exact hE _ _ _ hf dX3_climbDepth_34 rfl
    · have hf := gx_if c_11 hf
      refine j_iload_n (pc := 14) g 1 dX3_climbDepth_14 rfl ?_
      refine j_bipush (v := 12) (pc := 15) g dX3_climbDepth_15 (by decide) ?_
      refine j_icmp_ge (tgt := 33) (pc := 17) g dX3_climbDepth_17 (by decide) (fun c_17 => ?_) (fun c_17 => ?_)
      · have hf := gx_it c_17 hf
        refine j_iload_n (pc := 33) g 1 dX3_climbDepth_33 rfl ?_
        exact hE _ _ _ hf dX3_climbDepth_34 rfl
      · have hf := gx_if c_17 hf
        refine j_aload_n (pc := 20) g 0 dX3_climbDepth_20 rfl ?_
        refine gO_X3_0_3 (σ := σ) (pc := 21) g dX3_climbDepth_21 ?_
        refine j_iload_n (pc := 24) g 2 dX3_climbDepth_24 rfl ?_
        obtain ⟨h_25, hf⟩ := gx_ck hf
        refine lO_X3_0_3 (σ := σ) (pc := 25) g h_25 dX3_climbDepth_25 ?_
        refine j_istore_n (L' := [(3, .int (os_a σ 3 v3.toNatClampNeg)), (0, .ref (ad 0)), (2, .int v2)]) (pc := 26) g dX3_climbDepth_26 rfl (Nat.le_of_ble_eq_true rfl) rfl ?_
        refine j_iinc (v := v2 + 1) (L' := [(2, .int (v2 + 1)), (3, .int (os_a σ 3 v3.toNatClampNeg)), (0, .ref (ad 0))]) (pc := 27) g 2 dX3_climbDepth_27 rfl rfl (Nat.le_of_ble_eq_true rfl) rfl ?_
        refine j_goto (tgt := 9) (pc := 30) g dX3_climbDepth_30 (by decide) ?_
        refine j_sub (pc := 9) g [2, 0, 1] rfl ?_
        exact ih (v2 + 1) (os_a σ 3 v3.toNatClampNeg) hf
set_option maxRecDepth 100000 in
set_option maxHeartbeats 4000000 in
theorem cX3_climbDepth_ {D : va_G} {t : Nat → ClassId} {aa : gx_AA} {l : Launch} {ad : Nat → Nat} {rs : va_W} {σ : OS} {p1 : Int32} {q : Int32} (hf : fX3_climbDepth σ p1 = some q) : gx_C D t (gx_E0 aa) l yX3_climbDepth cX3_climbDepth 4 (some .int) 0 0 [.ref (ad 0), .int p1] (oC ad t σ ++ rs) (oC ad t σ ++ rs) (some (.int q)) := by
  refine gx_intro_i (by decide) (Nat.le_of_ble_eq_true rfl) (fun J g hE0 => ?_)
  have hE : ∀ (v : Int32) (pc : Nat) (L : List (Nat × Value)), some v = some q → decode cX3_climbDepth pc = .ok (.ireturn, 1) → narrow .int (.int v) = .int v → J 0 0 (oC ad t σ ++ rs) pc L [.int v] := fun v pc L h h1 h2 => by cases h; exact hE0 pc L h1 h2
  unfold fX3_climbDepth at hf
  show J 0 0 (oC ad t σ ++ rs) 0 [(0, .ref (ad 0)), (1, .int p1)] []
  refine j_iconst (v := 0) (pc := 0) g dX3_climbDepth_0 (by decide) ?_
  refine j_istore_n (L' := [(2, .int (0 : Int32)), (0, .ref (ad 0)), (1, .int p1)]) (pc := 1) g dX3_climbDepth_1 rfl (Nat.le_of_ble_eq_true rfl) rfl ?_
  refine j_aload_n (pc := 2) g 1 dX3_climbDepth_2 rfl ?_
  refine gO_X3_0_3 (σ := σ) (pc := 3) g dX3_climbDepth_3 ?_
  refine j_iload_n (pc := 6) g 2 dX3_climbDepth_6 rfl ?_
  obtain ⟨h_7, hf⟩ := gx_ck hf
  refine lO_X3_0_3 (σ := σ) (pc := 7) g h_7 dX3_climbDepth_7 ?_
  refine j_istore_n (L' := [(3, .int (os_a σ 3 p1.toNatClampNeg)), (2, .int (0 : Int32)), (0, .ref (ad 0)), (1, .int p1)]) (pc := 8) g dX3_climbDepth_8 rfl (Nat.le_of_ble_eq_true rfl) rfl ?_
  refine j_sub (pc := 9) g [2, 1, 0] rfl ?_
  exact tX3_climbDepth_9 g hE 2000 (0 : Int32) (os_a σ 3 p1.toNatClampNeg) hf
theorem cO_X3_X3_searchDepth_0 {D : va_G} {t : Nat → ClassId} {aa : gx_AA} {l : Launch} {R : Room} {cc : ByteArray} {nL : Nat} {J : gx_J} {ad : Nat → Nat} {rs : va_W} {k n pc : Nat} {L : List (Nat × Value)} {rest : List Value} (g : gx_G D t (gx_E0 aa) l R cc RX3 nL J) {σ : OS} {x0 x1 x2 : Int32} {q : Int32} {fr lo : Nat} (hC : gx_C D t (gx_E0 aa) l yX3_searchDepth cX3_searchDepth 6 (some .int) fr lo [.ref (ad 0), .int x0, .int x1, .int x2] (oC ad t σ ++ rs) (oC ad t σ ++ rs) (some (.int q))) (hR : fr + 1 ≤ R.frames ∧ 8 + (6 + 11) + lo ≤ R.locals) (hkn : k ≤ R.cells ∧ n ≤ R.slots) (hcat : (rest.map fun v => v.category).sum ≤ 8) (hd : decode cc pc = .ok (.invokestatic 38, 3)) (kk : J k n (oC ad t σ ++ rs) (pc + 3) L (.int q :: rest)) : J k n (oC ad t σ ++ rs) pc L (.int x2 :: .int x1 :: .int x0 :: .ref (ad 0) :: rest) := j_callSi (na := 4) (As := [.ref (ad 0), .int x0, .int x1, .int x2]) g hC q_t_X3_searchDepth q_c_X3_searchDepth q_l_X3_38 q_n_X3 (by decide +kernel) rfl hR hkn hcat (.refl _) (.refl _) hd kk rfl
set_option maxRecDepth 100000 in
set_option maxHeartbeats 4000000 in
theorem tX3_searchDepth_10 {D : va_G} {t : Nat → ClassId} {aa : gx_AA} {l : Launch} {J : gx_J} {ad : Nat → Nat} {rs : va_W} {dd : Nat} {rec : Int32 → Int32 → Int32 → Option Int32} {σ : OS} {q : Int32} (g : gx_G D t (gx_E0 aa) l ({ frames := dd + 1 + 0, cells := 0, slots := 0, locals := (dd + 1) * 25 + 0 }) cX3_searchDepth RX3 6 J) (hE : ∀ (v : Int32) (pc : Nat) (L : List (Nat × Value)), some v = some q → decode cX3_searchDepth pc = .ok (.ireturn, 1) → narrow .int (.int v) = .int v → J 0 0 (oC ad t σ ++ rs) pc L [.int v]) (hrec : ∀ {p1 p2 p3 : Int32} {q : Int32}, rec p1 p2 p3 = some q → gx_C D t (gx_E0 aa) l yX3_searchDepth cX3_searchDepth 6 (some .int) (dd + 0) (dd * 25 + 0) [.ref (ad 0), .int p1, .int p2, .int p3] (oC ad t σ ++ rs) (oC ad t σ ++ rs) (some (.int q)))  : ∀ (n : Nat) (v1 : Int32) (v2 : Int32) (v3 : Int32) (v4 : Int32), fX3_searchDepth_10 rec σ n v1 v2 v3 v4 = some q → J 0 0 (oC ad t σ ++ rs) 10 [(0, .ref (ad 0)), (1, .int v1), (2, .int v2), (3, .int v3), (4, .int v4)] [] := by
  intro n
  induction n with
  | zero => intro v1 v2 v3 v4 hf; cases hf
  | succ n ih =>
    intro v1 v2 v3 v4 hf
    replace hf := (fX3_searchDepth_10_s rec σ n v1 v2 v3 v4).symm.trans hf
    refine j_iload (pc := 10) g 4 dX3_searchDepth_10 rfl ?_
    refine j_aload_n (pc := 12) g 0 dX3_searchDepth_12 rfl ?_
    refine gO_X3_0_5 (σ := σ) (pc := 13) g dX3_searchDepth_13 ?_
    refine j_icmp_ge (tgt := 63) (pc := 16) g dX3_searchDepth_16 (by decide) (fun c_16 => ?_) (fun c_16 => ?_)
    · have hf := gx_it c_16 hf
      refine j_iconst (v := -1) (pc := 63) g dX3_searchDepth_63 (by decide) ?_
      exact hE _ _ _ hf dX3_searchDepth_64 rfl
    · have hf := gx_if c_16 hf
      refine j_iload_n (pc := 19) g 3 dX3_searchDepth_19 rfl ?_
      refine j_bipush (v := 12) (pc := 20) g dX3_searchDepth_20 (by decide) ?_
      refine j_icmp_ge (tgt := 63) (pc := 22) g dX3_searchDepth_22 (by decide) (fun c_22 => ?_) (fun c_22 => ?_)
      · have hf := gx_it c_22 hf
        refine j_iconst (v := -1) (pc := 63) g dX3_searchDepth_63 (by decide) ?_
        exact hE _ _ _ hf dX3_searchDepth_64 rfl
      · have hf := gx_if c_22 hf
        refine j_aload_n (pc := 25) g 0 dX3_searchDepth_25 rfl ?_
        refine gO_X3_0_3 (σ := σ) (pc := 26) g dX3_searchDepth_26 ?_
        refine j_iload (pc := 29) g 4 dX3_searchDepth_29 rfl ?_
        obtain ⟨h_31, hf⟩ := gx_ck hf
        refine lO_X3_0_3 (σ := σ) (pc := 31) g h_31 dX3_searchDepth_31 ?_
        refine j_iload_n (pc := 32) g 1 dX3_searchDepth_32 rfl ?_
        refine j_icmp_ne (tgt := 57) (pc := 33) g dX3_searchDepth_33 (by decide) (fun c_33 => ?_) (fun c_33 => ?_)
        · have hf := gx_if c_33 hf
          refine j_iinc (v := v4 + 1) (L' := [(4, .int (v4 + 1)), (0, .ref (ad 0)), (1, .int v1), (2, .int v2), (3, .int v3)]) (pc := 57) g 4 dX3_searchDepth_57 rfl rfl (Nat.le_of_ble_eq_true rfl) rfl ?_
          refine j_goto (tgt := 10) (pc := 60) g dX3_searchDepth_60 (by decide) ?_
          refine j_sub (pc := 10) g [1, 2, 3, 4, 0] rfl ?_
          exact ih v1 v2 v3 (v4 + 1) hf
        · have hf := gx_it c_33 hf
          refine j_aload_n (pc := 36) g 0 dX3_searchDepth_36 rfl ?_
          refine j_iload (pc := 37) g 4 dX3_searchDepth_37 rfl ?_
          refine j_iload_n (pc := 39) g 2 dX3_searchDepth_39 rfl ?_
          refine j_iload_n (pc := 40) g 3 dX3_searchDepth_40 rfl ?_
          refine j_iconst (v := 1) (pc := 41) g dX3_searchDepth_41 (by decide) ?_
          refine j_iadd (pc := 42) g dX3_searchDepth_42 ?_
          obtain ⟨r43, h_43, hf⟩ := gx_bs hf
          refine cO_X3_X3_searchDepth_0 (σ := σ) (pc := 43) g (hrec h_43) ⟨(by omega : _ + 0 + 1 ≤ _ + 1 + 0), (by omega : 8 + (6 + 11) + (_ * 25 + 0) ≤ (_ + 1) * 25 + 0)⟩ ⟨Nat.zero_le _, Nat.zero_le _⟩ (Nat.le_of_ble_eq_true rfl) dX3_searchDepth_43 ?_
          refine j_istore (L' := [(5, .int r43), (0, .ref (ad 0)), (1, .int v1), (2, .int v2), (3, .int v3), (4, .int v4)]) (pc := 46) g dX3_searchDepth_46 (Nat.le_of_ble_eq_true rfl) rfl ?_
          refine j_iload (pc := 48) g 0 dX3_searchDepth_48 rfl ?_
          refine j_iconst (v := -1) (pc := 50) g dX3_searchDepth_50 (by decide) ?_
          refine j_icmp_eq (tgt := 57) (pc := 51) g dX3_searchDepth_51 (by decide) (fun c_51 => ?_) (fun c_51 => ?_)
          · have hf := gx_it c_51 hf
            refine j_iinc (v := v4 + 1) (L' := [(4, .int (v4 + 1)), (5, .int r43), (0, .ref (ad 0)), (1, .int v1), (2, .int v2), (3, .int v3)]) (pc := 57) g 5 dX3_searchDepth_57 rfl rfl (Nat.le_of_ble_eq_true rfl) rfl ?_
            refine j_goto (tgt := 10) (pc := 60) g dX3_searchDepth_60 (by decide) ?_
            refine j_sub (pc := 10) g [2, 3, 4, 5, 0] rfl ?_
            exact ih v1 v2 v3 (v4 + 1) hf
          · have hf := gx_if c_51 hf
            refine j_iload (pc := 54) g 0 dX3_searchDepth_54 rfl ?_
            exact hE _ _ _ hf dX3_searchDepth_56 rfl
set_option maxRecDepth 100000 in
set_option maxHeartbeats 4000000 in
theorem cX3_searchDepth_ {D : va_G} {t : Nat → ClassId} {aa : gx_AA} {l : Launch} {ad : Nat → Nat} {rs : va_W} {σ : OS} : ∀ (d : Nat) {p1 p2 p3 : Int32} {q : Int32}, fX3_searchDepth σ d p1 p2 p3 = some q → gx_C D t (gx_E0 aa) l yX3_searchDepth cX3_searchDepth 6 (some .int) (d + 0) (d * 25 + 0) [.ref (ad 0), .int p1, .int p2, .int p3] (oC ad t σ ++ rs) (oC ad t σ ++ rs) (some (.int q)) := by
  intro d
  induction d with
  | zero => intro p1 p2 p3 q hf; cases hf
  | succ n ih =>
    intro p1 p2 p3 q hf
    replace hf := (fX3_searchDepth_s σ n p1 p2 p3).symm.trans hf
    refine gx_intro_i (by decide) (Nat.le_of_ble_eq_true rfl) (fun J g hE0 => ?_)
    replace g : gx_G D t (gx_E0 aa) l ({ frames := n + 1 + 0, cells := 0, slots := 0, locals := (n + 1) * 25 + 0 }) cX3_searchDepth RX3 6 J := g
    have hE : ∀ (v : Int32) (pc : Nat) (L : List (Nat × Value)), some v = some q → decode cX3_searchDepth pc = .ok (.ireturn, 1) → narrow .int (.int v) = .int v → J 0 0 (oC ad t σ ++ rs) pc L [.int v] := fun v pc L h h1 h2 => by cases h; exact hE0 pc L h1 h2
    show J 0 0 (oC ad t σ ++ rs) 0 [(0, .ref (ad 0)), (1, .int p1), (2, .int p2), (3, .int p3)] []
    refine j_iload_n (pc := 0) g 1 dX3_searchDepth_0 rfl ?_
    refine j_iload_n (pc := 1) g 2 dX3_searchDepth_1 rfl ?_
    refine j_icmp_ne (tgt := 7) (pc := 2) g dX3_searchDepth_2 (by decide) (fun c_2 => ?_) (fun c_2 => ?_)
    · have hf := gx_if c_2 hf
      refine j_iconst (v := 0) (pc := 7) g dX3_searchDepth_7 (by decide) ?_
      refine j_istore (L' := [(4, .int (0 : Int32)), (0, .ref (ad 0)), (1, .int p1), (2, .int p2), (3, .int p3)]) (pc := 8) g dX3_searchDepth_8 (Nat.le_of_ble_eq_true rfl) rfl ?_
      refine j_sub (pc := 10) g [1, 2, 3, 4, 0] rfl ?_
      exact tX3_searchDepth_10 g hE ih 2000 p1 p2 p3 (0 : Int32) hf
    · have hf := gx_it c_2 hf
      refine j_iload_n (pc := 5) g 3 dX3_searchDepth_5 rfl ?_
      exact hE _ _ _ hf dX3_searchDepth_6 rfl
theorem cO_X3_X3_sizeGoingDown_0 {D : va_G} {t : Nat → ClassId} {aa : gx_AA} {l : Launch} {R : Room} {cc : ByteArray} {nL : Nat} {J : gx_J} {ad : Nat → Nat} {rs : va_W} {k n pc : Nat} {L : List (Nat × Value)} {rest : List Value} (g : gx_G D t (gx_E0 aa) l R cc RX3 nL J) {σ : OS} {x0 x1 : Int32} {q : Int32} {fr lo : Nat} (hC : gx_C D t (gx_E0 aa) l yX3_sizeGoingDown cX3_sizeGoingDown 5 (some .int) fr lo [.ref (ad 0), .int x0, .int x1] (oC ad t σ ++ rs) (oC ad t σ ++ rs) (some (.int q))) (hR : fr + 1 ≤ R.frames ∧ 8 + (5 + 11) + lo ≤ R.locals) (hkn : k ≤ R.cells ∧ n ≤ R.slots) (hcat : (rest.map fun v => v.category).sum ≤ 8) (hd : decode cc pc = .ok (.invokestatic 42, 3)) (kk : J k n (oC ad t σ ++ rs) (pc + 3) L (.int q :: rest)) : J k n (oC ad t σ ++ rs) pc L (.int x1 :: .int x0 :: .ref (ad 0) :: rest) := j_callSi (na := 3) (As := [.ref (ad 0), .int x0, .int x1]) g hC q_t_X3_sizeGoingDown q_c_X3_sizeGoingDown q_l_X3_42 q_n_X3 (by decide +kernel) rfl hR hkn hcat (.refl _) (.refl _) hd kk rfl
set_option maxRecDepth 100000 in
set_option maxHeartbeats 4000000 in
theorem tX3_sizeGoingDown_5 {D : va_G} {t : Nat → ClassId} {aa : gx_AA} {l : Launch} {J : gx_J} {ad : Nat → Nat} {rs : va_W} {dd : Nat} {rec : Int32 → Int32 → Option Int32} {σ : OS} {q : Int32} (g : gx_G D t (gx_E0 aa) l ({ frames := dd + 1 + 0, cells := 0, slots := 0, locals := (dd + 1) * 24 + 0 }) cX3_sizeGoingDown RX3 5 J) (hE : ∀ (v : Int32) (pc : Nat) (L : List (Nat × Value)), some v = some q → decode cX3_sizeGoingDown pc = .ok (.ireturn, 1) → narrow .int (.int v) = .int v → J 0 0 (oC ad t σ ++ rs) pc L [.int v]) (hrec : ∀ {p1 p2 : Int32} {q : Int32}, rec p1 p2 = some q → gx_C D t (gx_E0 aa) l yX3_sizeGoingDown cX3_sizeGoingDown 5 (some .int) (dd + 0) (dd * 24 + 0) [.ref (ad 0), .int p1, .int p2] (oC ad t σ ++ rs) (oC ad t σ ++ rs) (some (.int q)))  : ∀ (n : Nat) (v1 : Int32) (v2 : Int32) (v3 : Int32) (v4 : Int32), fX3_sizeGoingDown_5 rec σ n v1 v2 v3 v4 = some q → J 0 0 (oC ad t σ ++ rs) 5 [(0, .ref (ad 0)), (1, .int v1), (2, .int v2), (3, .int v3), (4, .int v4)] [] := by
  intro n
  induction n with
  | zero => intro v1 v2 v3 v4 hf; cases hf
  | succ n ih =>
    intro v1 v2 v3 v4 hf
    replace hf := (fX3_sizeGoingDown_5_s rec σ n v1 v2 v3 v4).symm.trans hf
    refine j_iload (pc := 5) g 4 dX3_sizeGoingDown_5 rfl ?_
    refine j_aload_n (pc := 7) g 0 dX3_sizeGoingDown_7 rfl ?_
    refine gO_X3_0_5 (σ := σ) (pc := 8) g dX3_sizeGoingDown_8 ?_
    refine j_icmp_ge (tgt := 49) (pc := 11) g dX3_sizeGoingDown_11 (by decide) (fun c_11 => ?_) (fun c_11 => ?_)
    · have hf := gx_it c_11 hf
      refine j_iload_n (pc := 49) g 3 dX3_sizeGoingDown_49 rfl ?_
      exact hE _ _ _ hf dX3_sizeGoingDown_50 rfl
    · have hf := gx_if c_11 hf
      refine j_iload_n (pc := 14) g 2 dX3_sizeGoingDown_14 rfl ?_
      refine j_bipush (v := 12) (pc := 15) g dX3_sizeGoingDown_15 (by decide) ?_
      refine j_icmp_ge (tgt := 49) (pc := 17) g dX3_sizeGoingDown_17 (by decide) (fun c_17 => ?_) (fun c_17 => ?_)
      · have hf := gx_it c_17 hf
        refine j_iload_n (pc := 49) g 3 dX3_sizeGoingDown_49 rfl ?_
        exact hE _ _ _ hf dX3_sizeGoingDown_50 rfl
      · have hf := gx_if c_17 hf
        refine j_aload_n (pc := 20) g 0 dX3_sizeGoingDown_20 rfl ?_
        refine gO_X3_0_3 (σ := σ) (pc := 21) g dX3_sizeGoingDown_21 ?_
        refine j_iload (pc := 24) g 4 dX3_sizeGoingDown_24 rfl ?_
        obtain ⟨h_26, hf⟩ := gx_ck hf
        refine lO_X3_0_3 (σ := σ) (pc := 26) g h_26 dX3_sizeGoingDown_26 ?_
        refine j_iload_n (pc := 27) g 1 dX3_sizeGoingDown_27 rfl ?_
        refine j_icmp_ne (tgt := 43) (pc := 28) g dX3_sizeGoingDown_28 (by decide) (fun c_28 => ?_) (fun c_28 => ?_)
        · have hf := gx_if c_28 hf
          refine j_iinc (v := v4 + 1) (L' := [(4, .int (v4 + 1)), (0, .ref (ad 0)), (1, .int v1), (2, .int v2), (3, .int v3)]) (pc := 43) g 4 dX3_sizeGoingDown_43 rfl rfl (Nat.le_of_ble_eq_true rfl) rfl ?_
          refine j_goto (tgt := 5) (pc := 46) g dX3_sizeGoingDown_46 (by decide) ?_
          refine j_sub (pc := 5) g [1, 2, 3, 4, 0] rfl ?_
          exact ih v1 v2 v3 (v4 + 1) hf
        · have hf := gx_it c_28 hf
          refine j_iload_n (pc := 31) g 3 dX3_sizeGoingDown_31 rfl ?_
          refine j_aload_n (pc := 32) g 0 dX3_sizeGoingDown_32 rfl ?_
          refine j_iload (pc := 33) g 4 dX3_sizeGoingDown_33 rfl ?_
          refine j_iload_n (pc := 35) g 2 dX3_sizeGoingDown_35 rfl ?_
          refine j_iconst (v := 1) (pc := 36) g dX3_sizeGoingDown_36 (by decide) ?_
          refine j_iadd (pc := 37) g dX3_sizeGoingDown_37 ?_
          obtain ⟨r38, h_38, hf⟩ := gx_bs hf
          refine cO_X3_X3_sizeGoingDown_0 (σ := σ) (pc := 38) g (hrec h_38) ⟨(by omega : _ + 0 + 1 ≤ _ + 1 + 0), (by omega : 8 + (5 + 11) + (_ * 24 + 0) ≤ (_ + 1) * 24 + 0)⟩ ⟨Nat.zero_le _, Nat.zero_le _⟩ (Nat.le_of_ble_eq_true rfl) dX3_sizeGoingDown_38 ?_
          refine j_iadd (pc := 41) g dX3_sizeGoingDown_41 ?_
          refine j_istore_n (L' := [(3, .int (v3 + r38)), (0, .ref (ad 0)), (1, .int v1), (2, .int v2), (4, .int v4)]) (pc := 42) g dX3_sizeGoingDown_42 rfl (Nat.le_of_ble_eq_true rfl) rfl ?_
          refine j_iinc (v := v4 + 1) (L' := [(4, .int (v4 + 1)), (3, .int (v3 + r38)), (0, .ref (ad 0)), (1, .int v1), (2, .int v2)]) (pc := 43) g 4 dX3_sizeGoingDown_43 rfl rfl (Nat.le_of_ble_eq_true rfl) rfl ?_
          refine j_goto (tgt := 5) (pc := 46) g dX3_sizeGoingDown_46 (by decide) ?_
          refine j_sub (pc := 5) g [2, 3, 4, 1, 0] rfl ?_
          exact ih v1 v2 (v3 + r38) (v4 + 1) hf
set_option maxRecDepth 100000 in
set_option maxHeartbeats 4000000 in
theorem cX3_sizeGoingDown_ {D : va_G} {t : Nat → ClassId} {aa : gx_AA} {l : Launch} {ad : Nat → Nat} {rs : va_W} {σ : OS} : ∀ (d : Nat) {p1 p2 : Int32} {q : Int32}, fX3_sizeGoingDown σ d p1 p2 = some q → gx_C D t (gx_E0 aa) l yX3_sizeGoingDown cX3_sizeGoingDown 5 (some .int) (d + 0) (d * 24 + 0) [.ref (ad 0), .int p1, .int p2] (oC ad t σ ++ rs) (oC ad t σ ++ rs) (some (.int q)) := by
  intro d
  induction d with
  | zero => intro p1 p2 q hf; cases hf
  | succ n ih =>
    intro p1 p2 q hf
    replace hf := (fX3_sizeGoingDown_s σ n p1 p2).symm.trans hf
    refine gx_intro_i (by decide) (Nat.le_of_ble_eq_true rfl) (fun J g hE0 => ?_)
    replace g : gx_G D t (gx_E0 aa) l ({ frames := n + 1 + 0, cells := 0, slots := 0, locals := (n + 1) * 24 + 0 }) cX3_sizeGoingDown RX3 5 J := g
    have hE : ∀ (v : Int32) (pc : Nat) (L : List (Nat × Value)), some v = some q → decode cX3_sizeGoingDown pc = .ok (.ireturn, 1) → narrow .int (.int v) = .int v → J 0 0 (oC ad t σ ++ rs) pc L [.int v] := fun v pc L h h1 h2 => by cases h; exact hE0 pc L h1 h2
    show J 0 0 (oC ad t σ ++ rs) 0 [(0, .ref (ad 0)), (1, .int p1), (2, .int p2)] []
    refine j_iconst (v := 1) (pc := 0) g dX3_sizeGoingDown_0 (by decide) ?_
    refine j_istore_n (L' := [(3, .int (1 : Int32)), (0, .ref (ad 0)), (1, .int p1), (2, .int p2)]) (pc := 1) g dX3_sizeGoingDown_1 rfl (Nat.le_of_ble_eq_true rfl) rfl ?_
    refine j_iconst (v := 0) (pc := 2) g dX3_sizeGoingDown_2 (by decide) ?_
    refine j_istore (L' := [(4, .int (0 : Int32)), (3, .int (1 : Int32)), (0, .ref (ad 0)), (1, .int p1), (2, .int p2)]) (pc := 3) g dX3_sizeGoingDown_3 (Nat.le_of_ble_eq_true rfl) rfl ?_
    refine j_sub (pc := 5) g [2, 3, 4, 1, 0] rfl ?_
    exact tX3_sizeGoingDown_5 g hE ih 2000 p1 p2 (1 : Int32) (0 : Int32) hf
theorem cO_X3_X3_climbDepth_0 {D : va_G} {t : Nat → ClassId} {aa : gx_AA} {l : Launch} {R : Room} {cc : ByteArray} {nL : Nat} {J : gx_J} {ad : Nat → Nat} {rs : va_W} {k n pc : Nat} {L : List (Nat × Value)} {rest : List Value} (g : gx_G D t (gx_E0 aa) l R cc RX3 nL J) {σ : OS} {x0 : Int32} {q : Int32} {fr lo : Nat} (hC : gx_C D t (gx_E0 aa) l yX3_climbDepth cX3_climbDepth 4 (some .int) fr lo [.ref (ad 0), .int x0] (oC ad t σ ++ rs) (oC ad t σ ++ rs) (some (.int q))) (hR : fr + 1 ≤ R.frames ∧ 8 + (4 + 11) + lo ≤ R.locals) (hkn : k ≤ R.cells ∧ n ≤ R.slots) (hcat : (rest.map fun v => v.category).sum ≤ 8) (hd : decode cc pc = .ok (.invokevirtual 64, 3)) (kk : J k n (oC ad t σ ++ rs) (pc + 3) L (.int q :: rest)) : J k n (oC ad t σ ++ rs) pc L (.int x0 :: .ref (ad 0) :: rest) := j_callVi (na := 1) (As := [.int x0]) (q0 := 0) (ci := 5) g hC q_i_X3_climbDepth q_s_X3_climbDepth rfl rfl rfl q_c_X3_climbDepth q_l_X3_64 q_n_X3 (by decide +kernel) rfl hR hkn hcat (.refl _) (.refl _) hd kk rfl
set_option maxRecDepth 100000 in
set_option maxHeartbeats 4000000 in
theorem tX3_nextOnWay_5 {D : va_G} {t : Nat → ClassId} {aa : gx_AA} {l : Launch} {J : gx_J} {ad : Nat → Nat} {rs : va_W} {σ : OS} {q : Int32} (g : gx_G D t (gx_E0 aa) l ({ frames := 0, cells := 0, slots := 0, locals := 0 }) cX3_nextOnWay RX3 5 J) (hE : ∀ (v : Int32) (pc : Nat) (L : List (Nat × Value)), some v = some q → decode cX3_nextOnWay pc = .ok (.ireturn, 1) → narrow .int (.int v) = .int v → J 0 0 (oC ad t σ ++ rs) pc L [.int v])  : ∀ (n : Nat) (v1 : Int32) (v3 : Int32) (v4 : Int32), fX3_nextOnWay_5 σ n v1 v3 v4 = some q → J 0 0 (oC ad t σ ++ rs) 5 [(0, .ref (ad 0)), (1, .int v1), (3, .int v3), (4, .int v4)] [] := by
  intro n
  induction n with
  | zero => intro v1 v3 v4 hf; cases hf
  | succ n ih =>
    intro v1 v3 v4 hf
    replace hf := (fX3_nextOnWay_5_s σ n v1 v3 v4).symm.trans hf
    refine j_iload (pc := 5) g 3 dX3_nextOnWay_5 rfl ?_
    refine j_bipush (v := 12) (pc := 7) g dX3_nextOnWay_7 (by decide) ?_
    refine j_icmp_ge (tgt := 42) (pc := 9) g dX3_nextOnWay_9 (by decide) (fun c_9 => ?_) (fun c_9 => ?_)
    · have hf := gx_it c_9 hf
      refine j_iconst (v := -1) (pc := 42) g dX3_nextOnWay_42 (by decide) ?_
      exact hE _ _ _ hf dX3_nextOnWay_43 rfl
    · have hf := gx_if c_9 hf
      refine j_iload_n (pc := 12) g 2 dX3_nextOnWay_12 rfl ?_
      refine j_iconst (v := -1) (pc := 13) g dX3_nextOnWay_13 (by decide) ?_
      refine j_icmp_eq (tgt := 42) (pc := 14) g dX3_nextOnWay_14 (by decide) (fun c_14 => ?_) (fun c_14 => ?_)
      · have hf := gx_it c_14 hf
        refine j_iconst (v := -1) (pc := 42) g dX3_nextOnWay_42 (by decide) ?_
        exact hE _ _ _ hf dX3_nextOnWay_43 rfl
      · have hf := gx_if c_14 hf
        refine j_aload_n (pc := 17) g 0 dX3_nextOnWay_17 rfl ?_
        refine gO_X3_0_3 (σ := σ) (pc := 18) g dX3_nextOnWay_18 ?_
        refine j_iload_n (pc := 21) g 2 dX3_nextOnWay_21 rfl ?_
        obtain ⟨h_22, hf⟩ := gx_ck hf
        refine lO_X3_0_3 (σ := σ) (pc := 22) g h_22 dX3_nextOnWay_22 ?_
        refine j_iload_n (pc := 23) g 1 dX3_nextOnWay_23 rfl ?_
        refine j_icmp_ne (tgt := 29) (pc := 24) g dX3_nextOnWay_24 (by decide) (fun c_24 => ?_) (fun c_24 => ?_)
        · have hf := gx_if c_24 hf
          refine j_aload_n (pc := 29) g 0 dX3_nextOnWay_29 rfl ?_
          refine gO_X3_0_3 (σ := σ) (pc := 30) g dX3_nextOnWay_30 ?_
          refine j_iload_n (pc := 33) g 2 dX3_nextOnWay_33 rfl ?_
          obtain ⟨h_34, hf⟩ := gx_ck hf
          refine lO_X3_0_3 (σ := σ) (pc := 34) g h_34 dX3_nextOnWay_34 ?_
          refine j_istore_n (L' := [(3, .int (os_a σ 3 v3.toNatClampNeg)), (0, .ref (ad 0)), (1, .int v1), (4, .int v4)]) (pc := 35) g dX3_nextOnWay_35 rfl (Nat.le_of_ble_eq_true rfl) rfl ?_
          refine j_iinc (v := v4 + 1) (L' := [(4, .int (v4 + 1)), (3, .int (os_a σ 3 v3.toNatClampNeg)), (0, .ref (ad 0)), (1, .int v1)]) (pc := 36) g 3 dX3_nextOnWay_36 rfl rfl (Nat.le_of_ble_eq_true rfl) rfl ?_
          refine j_goto (tgt := 5) (pc := 39) g dX3_nextOnWay_39 (by decide) ?_
          refine j_sub (pc := 5) g [2, 3, 1, 0] rfl ?_
          exact ih v1 (os_a σ 3 v3.toNatClampNeg) (v4 + 1) hf
        · have hf := gx_it c_24 hf
          refine j_iload_n (pc := 27) g 2 dX3_nextOnWay_27 rfl ?_
          exact hE _ _ _ hf dX3_nextOnWay_28 rfl
set_option maxRecDepth 100000 in
set_option maxHeartbeats 4000000 in
theorem cX3_nextOnWay_ {D : va_G} {t : Nat → ClassId} {aa : gx_AA} {l : Launch} {ad : Nat → Nat} {rs : va_W} {σ : OS} {p1 : Int32} {p2 : Int32} {q : Int32} (hf : fX3_nextOnWay σ p1 p2 = some q) : gx_C D t (gx_E0 aa) l yX3_nextOnWay cX3_nextOnWay 5 (some .int) 0 0 [.ref (ad 0), .int p1, .int p2] (oC ad t σ ++ rs) (oC ad t σ ++ rs) (some (.int q)) := by
  refine gx_intro_i (by decide) (Nat.le_of_ble_eq_true rfl) (fun J g hE0 => ?_)
  have hE : ∀ (v : Int32) (pc : Nat) (L : List (Nat × Value)), some v = some q → decode cX3_nextOnWay pc = .ok (.ireturn, 1) → narrow .int (.int v) = .int v → J 0 0 (oC ad t σ ++ rs) pc L [.int v] := fun v pc L h h1 h2 => by cases h; exact hE0 pc L h1 h2
  unfold fX3_nextOnWay at hf
  show J 0 0 (oC ad t σ ++ rs) 0 [(0, .ref (ad 0)), (1, .int p1), (2, .int p2)] []
  refine j_iload_n (pc := 0) g 2 dX3_nextOnWay_0 rfl ?_
  refine j_istore_n (L' := [(3, .int p2), (0, .ref (ad 0)), (1, .int p1), (2, .int p2)]) (pc := 1) g dX3_nextOnWay_1 rfl (Nat.le_of_ble_eq_true rfl) rfl ?_
  refine j_iconst (v := 0) (pc := 2) g dX3_nextOnWay_2 (by decide) ?_
  refine j_istore (L' := [(4, .int (0 : Int32)), (3, .int p2), (0, .ref (ad 0)), (1, .int p1), (2, .int p2)]) (pc := 3) g dX3_nextOnWay_3 (Nat.le_of_ble_eq_true rfl) rfl ?_
  refine j_sub (pc := 5) g [2, 3, 1, 0] rfl ?_
  exact tX3_nextOnWay_5 g hE 2000 p1 p2 (0 : Int32) hf
theorem cO_X3_X3_nextOnWay_0 {D : va_G} {t : Nat → ClassId} {aa : gx_AA} {l : Launch} {R : Room} {cc : ByteArray} {nL : Nat} {J : gx_J} {ad : Nat → Nat} {rs : va_W} {k n pc : Nat} {L : List (Nat × Value)} {rest : List Value} (g : gx_G D t (gx_E0 aa) l R cc RX3 nL J) {σ : OS} {x0 x1 : Int32} {q : Int32} {fr lo : Nat} (hC : gx_C D t (gx_E0 aa) l yX3_nextOnWay cX3_nextOnWay 5 (some .int) fr lo [.ref (ad 0), .int x0, .int x1] (oC ad t σ ++ rs) (oC ad t σ ++ rs) (some (.int q))) (hR : fr + 1 ≤ R.frames ∧ 8 + (5 + 11) + lo ≤ R.locals) (hkn : k ≤ R.cells ∧ n ≤ R.slots) (hcat : (rest.map fun v => v.category).sum ≤ 8) (hd : decode cc pc = .ok (.invokevirtual 71, 3)) (kk : J k n (oC ad t σ ++ rs) (pc + 3) L (.int q :: rest)) : J k n (oC ad t σ ++ rs) pc L (.int x1 :: .int x0 :: .ref (ad 0) :: rest) := j_callVi (na := 2) (As := [.int x0, .int x1]) (q0 := 0) (ci := 5) g hC q_i_X3_nextOnWay q_s_X3_nextOnWay rfl rfl rfl q_c_X3_nextOnWay q_l_X3_71 q_n_X3 (by decide +kernel) rfl hR hkn hcat (.refl _) (.refl _) hd kk rfl
set_option maxRecDepth 100000 in
set_option maxHeartbeats 4000000 in
theorem cX3_isOver_ {D : va_G} {t : Nat → ClassId} {aa : gx_AA} {l : Launch} {ad : Nat → Nat} {rs : va_W} {σ : OS} {p1 : Int32} {p2 : Int32} {q : Int32} (hf : fX3_isOver σ p1 p2 = some q) : gx_C D t (gx_E0 aa) l yX3_isOver cX3_isOver 3 (some .boolean) 1 24 [.ref (ad 0), .int p1, .int p2] (oC ad t σ ++ rs) (oC ad t σ ++ rs) (some (.int q)) := by
  refine gx_intro_i (by decide) (Nat.le_of_ble_eq_true rfl) (fun J g hE0 => ?_)
  have hE : ∀ (v : Int32) (pc : Nat) (L : List (Nat × Value)), some v = some q → decode cX3_isOver pc = .ok (.ireturn, 1) → narrow .boolean (.int v) = .int v → J 0 0 (oC ad t σ ++ rs) pc L [.int v] := fun v pc L h h1 h2 => by cases h; exact hE0 pc L h1 h2
  unfold fX3_isOver at hf
  show J 0 0 (oC ad t σ ++ rs) 0 [(0, .ref (ad 0)), (1, .int p1), (2, .int p2)] []
  refine j_aload_n (pc := 0) g 0 dX3_isOver_0 rfl ?_
  refine j_iload_n (pc := 1) g 1 dX3_isOver_1 rfl ?_
  refine j_iload_n (pc := 2) g 2 dX3_isOver_2 rfl ?_
  obtain ⟨r3, h_3, hf⟩ := gx_bs hf
  refine cO_X3_X3_nextOnWay_0 (σ := σ) (pc := 3) g (cX3_nextOnWay_ h_3) ⟨Nat.le_of_ble_eq_true rfl, Nat.le_of_ble_eq_true rfl⟩ ⟨Nat.zero_le _, Nat.zero_le _⟩ (Nat.le_of_ble_eq_true rfl) dX3_isOver_3 ?_
  refine j_iconst (v := -1) (pc := 6) g dX3_isOver_6 (by decide) ?_
  refine j_icmp_eq (tgt := 14) (pc := 7) g dX3_isOver_7 (by decide) (fun c_7 => ?_) (fun c_7 => ?_)
  · have hf := gx_it c_7 hf
    refine j_iconst (v := 0) (pc := 14) g dX3_isOver_14 (by decide) ?_
    exact hE _ _ _ hf dX3_isOver_15 rfl
  · have hf := gx_if c_7 hf
    refine j_iconst (v := 1) (pc := 10) g dX3_isOver_10 (by decide) ?_
    refine j_goto (tgt := 15) (pc := 11) g dX3_isOver_11 (by decide) ?_
    exact hE _ _ _ hf dX3_isOver_15 rfl
theorem cO_X3_X3_isOver_0 {D : va_G} {t : Nat → ClassId} {aa : gx_AA} {l : Launch} {R : Room} {cc : ByteArray} {nL : Nat} {J : gx_J} {ad : Nat → Nat} {rs : va_W} {k n pc : Nat} {L : List (Nat × Value)} {rest : List Value} (g : gx_G D t (gx_E0 aa) l R cc RX3 nL J) {σ : OS} {x0 x1 : Int32} {q : Int32} {fr lo : Nat} (hC : gx_C D t (gx_E0 aa) l yX3_isOver cX3_isOver 3 (some .boolean) fr lo [.ref (ad 0), .int x0, .int x1] (oC ad t σ ++ rs) (oC ad t σ ++ rs) (some (.int q))) (hR : fr + 1 ≤ R.frames ∧ 8 + (3 + 11) + lo ≤ R.locals) (hkn : k ≤ R.cells ∧ n ≤ R.slots) (hcat : (rest.map fun v => v.category).sum ≤ 8) (hd : decode cc pc = .ok (.invokevirtual 60, 3)) (kk : J k n (oC ad t σ ++ rs) (pc + 3) L (.int q :: rest)) : J k n (oC ad t σ ++ rs) pc L (.int x1 :: .int x0 :: .ref (ad 0) :: rest) := j_callVi (na := 2) (As := [.int x0, .int x1]) (q0 := 0) (ci := 5) g hC q_i_X3_isOver q_s_X3_isOver rfl rfl rfl q_c_X3_isOver q_l_X3_60 q_n_X3 (by decide +kernel) rfl hR hkn hcat (.refl _) (.refl _) hd kk rfl
set_option maxRecDepth 100000 in
set_option maxHeartbeats 4000000 in
theorem tX3_lowestOverBoth_5 {D : va_G} {t : Nat → ClassId} {aa : gx_AA} {l : Launch} {J : gx_J} {ad : Nat → Nat} {rs : va_W} {σ : OS} {q : Int32} (g : gx_G D t (gx_E0 aa) l ({ frames := 2, cells := 0, slots := 0, locals := 46 }) cX3_lowestOverBoth RX3 5 J) (hE : ∀ (v : Int32) (pc : Nat) (L : List (Nat × Value)), some v = some q → decode cX3_lowestOverBoth pc = .ok (.ireturn, 1) → narrow .int (.int v) = .int v → J 0 0 (oC ad t σ ++ rs) pc L [.int v])  : ∀ (n : Nat) (v2 : Int32) (v3 : Int32) (v4 : Int32), fX3_lowestOverBoth_5 σ n v2 v3 v4 = some q → J 0 0 (oC ad t σ ++ rs) 5 [(0, .ref (ad 0)), (2, .int v2), (3, .int v3), (4, .int v4)] [] := by
  intro n
  induction n with
  | zero => intro v2 v3 v4 hf; cases hf
  | succ n ih =>
    intro v2 v3 v4 hf
    replace hf := (fX3_lowestOverBoth_5_s σ n v2 v3 v4).symm.trans hf
    refine j_iload (pc := 5) g 3 dX3_lowestOverBoth_5 rfl ?_
    refine j_bipush (v := 12) (pc := 7) g dX3_lowestOverBoth_7 (by decide) ?_
    refine j_icmp_ge (tgt := 51) (pc := 9) g dX3_lowestOverBoth_9 (by decide) (fun c_9 => ?_) (fun c_9 => ?_)
    · have hf := gx_it c_9 hf
      refine j_iload_n (pc := 51) g 2 dX3_lowestOverBoth_51 rfl ?_
      exact hE _ _ _ hf dX3_lowestOverBoth_52 rfl
    · have hf := gx_if c_9 hf
      refine j_iload_n (pc := 12) g 2 dX3_lowestOverBoth_12 rfl ?_
      refine j_iload_n (pc := 13) g 1 dX3_lowestOverBoth_13 rfl ?_
      refine j_icmp_eq (tgt := 51) (pc := 14) g dX3_lowestOverBoth_14 (by decide) (fun c_14 => ?_) (fun c_14 => ?_)
      · have hf := gx_it c_14 hf
        refine j_iload_n (pc := 51) g 2 dX3_lowestOverBoth_51 rfl ?_
        exact hE _ _ _ hf dX3_lowestOverBoth_52 rfl
      · have hf := gx_if c_14 hf
        refine j_aload_n (pc := 17) g 0 dX3_lowestOverBoth_17 rfl ?_
        refine j_iload_n (pc := 18) g 2 dX3_lowestOverBoth_18 rfl ?_
        refine j_iload_n (pc := 19) g 1 dX3_lowestOverBoth_19 rfl ?_
        obtain ⟨r20, h_20, hf⟩ := gx_bs hf
        refine cO_X3_X3_isOver_0 (σ := σ) (pc := 20) g (cX3_isOver_ h_20) ⟨Nat.le_of_ble_eq_true rfl, Nat.le_of_ble_eq_true rfl⟩ ⟨Nat.zero_le _, Nat.zero_le _⟩ (Nat.le_of_ble_eq_true rfl) dX3_lowestOverBoth_20 ?_
        refine j_if_ne (tgt := 51) (pc := 23) g dX3_lowestOverBoth_23 (by decide) (fun c_23 => ?_) (fun c_23 => ?_)
        · have hf := gx_if c_23 hf
          refine j_iload_n (pc := 51) g 2 dX3_lowestOverBoth_51 rfl ?_
          exact hE _ _ _ hf dX3_lowestOverBoth_52 rfl
        · have hf := gx_it c_23 hf
          refine j_aload_n (pc := 26) g 0 dX3_lowestOverBoth_26 rfl ?_
          refine gO_X3_0_3 (σ := σ) (pc := 27) g dX3_lowestOverBoth_27 ?_
          refine j_iload_n (pc := 30) g 2 dX3_lowestOverBoth_30 rfl ?_
          obtain ⟨h_31, hf⟩ := gx_ck hf
          refine lO_X3_0_3 (σ := σ) (pc := 31) g h_31 dX3_lowestOverBoth_31 ?_
          refine j_iconst (v := -1) (pc := 32) g dX3_lowestOverBoth_32 (by decide) ?_
          refine j_icmp_ne (tgt := 38) (pc := 33) g dX3_lowestOverBoth_33 (by decide) (fun c_33 => ?_) (fun c_33 => ?_)
          · have hf := gx_if c_33 hf
            refine j_aload_n (pc := 38) g 0 dX3_lowestOverBoth_38 rfl ?_
            refine gO_X3_0_3 (σ := σ) (pc := 39) g dX3_lowestOverBoth_39 ?_
            refine j_iload_n (pc := 42) g 2 dX3_lowestOverBoth_42 rfl ?_
            obtain ⟨h_43, hf⟩ := gx_ck hf
            refine lO_X3_0_3 (σ := σ) (pc := 43) g h_43 dX3_lowestOverBoth_43 ?_
            refine j_istore_n (L' := [(3, .int (os_a σ 3 v3.toNatClampNeg)), (0, .ref (ad 0)), (2, .int v2), (4, .int v4)]) (pc := 44) g dX3_lowestOverBoth_44 rfl (Nat.le_of_ble_eq_true rfl) rfl ?_
            refine j_iinc (v := v4 + 1) (L' := [(4, .int (v4 + 1)), (3, .int (os_a σ 3 v3.toNatClampNeg)), (0, .ref (ad 0)), (2, .int v2)]) (pc := 45) g 3 dX3_lowestOverBoth_45 rfl rfl (Nat.le_of_ble_eq_true rfl) rfl ?_
            refine j_goto (tgt := 5) (pc := 48) g dX3_lowestOverBoth_48 (by decide) ?_
            refine j_sub (pc := 5) g [2, 3, 1, 0] rfl ?_
            exact ih v2 (os_a σ 3 v3.toNatClampNeg) (v4 + 1) hf
          · have hf := gx_it c_33 hf
            refine j_iload_n (pc := 36) g 2 dX3_lowestOverBoth_36 rfl ?_
            exact hE _ _ _ hf dX3_lowestOverBoth_37 rfl
set_option maxRecDepth 100000 in
set_option maxHeartbeats 4000000 in
theorem cX3_lowestOverBoth_ {D : va_G} {t : Nat → ClassId} {aa : gx_AA} {l : Launch} {ad : Nat → Nat} {rs : va_W} {σ : OS} {p1 : Int32} {p2 : Int32} {q : Int32} (hf : fX3_lowestOverBoth σ p1 p2 = some q) : gx_C D t (gx_E0 aa) l yX3_lowestOverBoth cX3_lowestOverBoth 5 (some .int) 2 46 [.ref (ad 0), .int p1, .int p2] (oC ad t σ ++ rs) (oC ad t σ ++ rs) (some (.int q)) := by
  refine gx_intro_i (by decide) (Nat.le_of_ble_eq_true rfl) (fun J g hE0 => ?_)
  have hE : ∀ (v : Int32) (pc : Nat) (L : List (Nat × Value)), some v = some q → decode cX3_lowestOverBoth pc = .ok (.ireturn, 1) → narrow .int (.int v) = .int v → J 0 0 (oC ad t σ ++ rs) pc L [.int v] := fun v pc L h h1 h2 => by cases h; exact hE0 pc L h1 h2
  unfold fX3_lowestOverBoth at hf
  show J 0 0 (oC ad t σ ++ rs) 0 [(0, .ref (ad 0)), (1, .int p1), (2, .int p2)] []
  refine j_iload_n (pc := 0) g 1 dX3_lowestOverBoth_0 rfl ?_
  refine j_istore_n (L' := [(3, .int p1), (0, .ref (ad 0)), (1, .int p1), (2, .int p2)]) (pc := 1) g dX3_lowestOverBoth_1 rfl (Nat.le_of_ble_eq_true rfl) rfl ?_
  refine j_iconst (v := 0) (pc := 2) g dX3_lowestOverBoth_2 (by decide) ?_
  refine j_istore (L' := [(4, .int (0 : Int32)), (3, .int p1), (0, .ref (ad 0)), (1, .int p1), (2, .int p2)]) (pc := 3) g dX3_lowestOverBoth_3 (Nat.le_of_ble_eq_true rfl) rfl ?_
  refine j_sub (pc := 5) g [2, 4, 1, 0] rfl ?_
  exact tX3_lowestOverBoth_5 g hE 2000 p2 p1 (0 : Int32) hf

set_option maxRecDepth 100000 in
set_option maxHeartbeats 4000000 in
theorem tX3_deepest_4 {D : va_G} {t : Nat → ClassId} {aa : gx_AA} {l : Launch} {J : gx_J} {ad : Nat → Nat} {rs : va_W} {σ : OS} {q : Int32} (g : gx_G D t (gx_E0 aa) l ({ frames := 1, cells := 0, slots := 0, locals := 23 }) cX3_deepest RX3 3 J) (hE : ∀ (v : Int32) (pc : Nat) (L : List (Nat × Value)), some v = some q → decode cX3_deepest pc = .ok (.ireturn, 1) → narrow .int (.int v) = .int v → J 0 0 (oC ad t σ ++ rs) pc L [.int v])  : ∀ (n : Nat) (v1 : Int32) (v2 : Int32), fX3_deepest_4 σ n v1 v2 = some q → J 0 0 (oC ad t σ ++ rs) 4 [(0, .ref (ad 0)), (1, .int v1), (2, .int v2)] [] := by
  intro n
  induction n with
  | zero => intro v1 v2 hf; cases hf
  | succ n ih =>
    intro v1 v2 hf
    replace hf := (fX3_deepest_4_s σ n v1 v2).symm.trans hf
    refine j_iload_n (pc := 4) g 2 dX3_deepest_4 rfl ?_
    refine j_aload_n (pc := 5) g 0 dX3_deepest_5 rfl ?_
    refine gO_X3_0_5 (σ := σ) (pc := 6) g dX3_deepest_6 ?_
    refine j_icmp_ge (tgt := 28) (pc := 9) g dX3_deepest_9 (by decide) (fun c_9 => ?_) (fun c_9 => ?_)
    · have hf := gx_it c_9 hf
      refine j_iload_n (pc := 28) g 1 dX3_deepest_28 rfl ?_
      exact hE _ _ _ hf dX3_deepest_29 rfl
    · have hf := gx_if c_9 hf
      refine j_iload_n (pc := 12) g 1 dX3_deepest_12 rfl ?_
      refine j_aload_n (pc := 13) g 0 dX3_deepest_13 rfl ?_
      refine j_iload_n (pc := 14) g 2 dX3_deepest_14 rfl ?_
      obtain ⟨r15, h_15, hf⟩ := gx_bs hf
      refine cO_X3_X3_climbDepth_0 (σ := σ) (pc := 15) g (cX3_climbDepth_ h_15) ⟨Nat.le_of_ble_eq_true rfl, Nat.le_of_ble_eq_true rfl⟩ ⟨Nat.zero_le _, Nat.zero_le _⟩ (Nat.le_of_ble_eq_true rfl) dX3_deepest_15 ?_
      refine j_max (pc := 18) g q_l_X3_75 q_t_mathmax q_n_math q_c_mathmax (Nat.le_of_ble_eq_true rfl) (Nat.le_of_ble_eq_true rfl) ⟨Nat.zero_le _, Nat.zero_le _⟩ dX3_deepest_18 ?_
      refine j_istore_n (L' := [(1, .int (if v1 < r15 then r15 else v1)), (0, .ref (ad 0)), (2, .int v2)]) (pc := 21) g dX3_deepest_21 rfl (Nat.le_of_ble_eq_true rfl) rfl ?_
      refine j_iinc (v := v2 + 1) (L' := [(2, .int (v2 + 1)), (1, .int (if v1 < r15 then r15 else v1)), (0, .ref (ad 0))]) (pc := 22) g 2 dX3_deepest_22 rfl rfl (Nat.le_of_ble_eq_true rfl) rfl ?_
      refine j_goto (tgt := 4) (pc := 25) g dX3_deepest_25 (by decide) ?_
      refine j_sub (pc := 4) g [2, 1, 0] rfl ?_
      exact ih (if v1 < r15 then r15 else v1) (v2 + 1) hf
set_option maxRecDepth 100000 in
set_option maxHeartbeats 4000000 in
theorem cX3_deepest_ {D : va_G} {t : Nat → ClassId} {aa : gx_AA} {l : Launch} {ad : Nat → Nat} {rs : va_W} {σ : OS} {q : Int32} (hf : fX3_deepest σ = some q) : gx_C D t (gx_E0 aa) l yX3_deepest cX3_deepest 3 (some .int) 1 23 [.ref (ad 0)] (oC ad t σ ++ rs) (oC ad t σ ++ rs) (some (.int q)) := by
  refine gx_intro_i (by decide) (Nat.le_of_ble_eq_true rfl) (fun J g hE0 => ?_)
  have hE : ∀ (v : Int32) (pc : Nat) (L : List (Nat × Value)), some v = some q → decode cX3_deepest pc = .ok (.ireturn, 1) → narrow .int (.int v) = .int v → J 0 0 (oC ad t σ ++ rs) pc L [.int v] := fun v pc L h h1 h2 => by cases h; exact hE0 pc L h1 h2
  unfold fX3_deepest at hf
  show J 0 0 (oC ad t σ ++ rs) 0 [(0, .ref (ad 0))] []
  refine j_iconst (v := 0) (pc := 0) g dX3_deepest_0 (by decide) ?_
  refine j_istore_n (L' := [(1, .int (0 : Int32)), (0, .ref (ad 0))]) (pc := 1) g dX3_deepest_1 rfl (Nat.le_of_ble_eq_true rfl) rfl ?_
  refine j_iconst (v := 0) (pc := 2) g dX3_deepest_2 (by decide) ?_
  refine j_istore_n (L' := [(2, .int (0 : Int32)), (1, .int (0 : Int32)), (0, .ref (ad 0))]) (pc := 3) g dX3_deepest_3 rfl (Nat.le_of_ble_eq_true rfl) rfl ?_
  refine j_sub (pc := 4) g [2, 1, 0] rfl ?_
  exact tX3_deepest_4 g hE 2000 (0 : Int32) (0 : Int32) hf

set_option maxRecDepth 100000 in
set_option maxHeartbeats 4000000 in
theorem tX3_leastLoyalty_9 {D : va_G} {t : Nat → ClassId} {aa : gx_AA} {l : Launch} {J : gx_J} {ad : Nat → Nat} {rs : va_W} {σ : OS} {q : Int32} (g : gx_G D t (gx_E0 aa) l ({ frames := 1, cells := 0, slots := 0, locals := 21 }) cX3_leastLoyalty RX3 6 J) (hE : ∀ (v : Int32) (pc : Nat) (L : List (Nat × Value)), some v = some q → decode cX3_leastLoyalty pc = .ok (.ireturn, 1) → narrow .int (.int v) = .int v → J 0 0 (oC ad t σ ++ rs) pc L [.int v])  : ∀ (n : Nat) (v1 : Int32) (v3 : Int32) (v4 : Int32) (v5 : Int32), fX3_leastLoyalty_9 σ n v1 v3 v4 v5 = some q → J 0 0 (oC ad t σ ++ rs) 9 [(0, .ref (ad 0)), (1, .int v1), (3, .int v3), (4, .int v4), (5, .int v5)] [] := by
  intro n
  induction n with
  | zero => intro v1 v3 v4 v5 hf; cases hf
  | succ n ih =>
    intro v1 v3 v4 v5 hf
    replace hf := (fX3_leastLoyalty_9_s σ n v1 v3 v4 v5).symm.trans hf
    refine j_iload (pc := 9) g 4 dX3_leastLoyalty_9 rfl ?_
    refine j_bipush (v := 12) (pc := 11) g dX3_leastLoyalty_11 (by decide) ?_
    refine j_icmp_ge (tgt := 55) (pc := 13) g dX3_leastLoyalty_13 (by decide) (fun c_13 => ?_) (fun c_13 => ?_)
    · have hf := gx_it c_13 hf
      refine j_iload_n (pc := 55) g 2 dX3_leastLoyalty_55 rfl ?_
      exact hE _ _ _ hf dX3_leastLoyalty_56 rfl
    · have hf := gx_if c_13 hf
      refine j_iload (pc := 16) g 3 dX3_leastLoyalty_16 rfl ?_
      refine j_iload_n (pc := 18) g 1 dX3_leastLoyalty_18 rfl ?_
      refine j_icmp_eq (tgt := 55) (pc := 19) g dX3_leastLoyalty_19 (by decide) (fun c_19 => ?_) (fun c_19 => ?_)
      · have hf := gx_it c_19 hf
        refine j_iload_n (pc := 55) g 2 dX3_leastLoyalty_55 rfl ?_
        exact hE _ _ _ hf dX3_leastLoyalty_56 rfl
      · have hf := gx_if c_19 hf
        refine j_iload (pc := 22) g 3 dX3_leastLoyalty_22 rfl ?_
        refine j_iconst (v := -1) (pc := 24) g dX3_leastLoyalty_24 (by decide) ?_
        refine j_icmp_eq (tgt := 55) (pc := 25) g dX3_leastLoyalty_25 (by decide) (fun c_25 => ?_) (fun c_25 => ?_)
        · have hf := gx_it c_25 hf
          refine j_iload_n (pc := 55) g 2 dX3_leastLoyalty_55 rfl ?_
          exact hE _ _ _ hf dX3_leastLoyalty_56 rfl
        · have hf := gx_if c_25 hf
          refine j_iload_n (pc := 28) g 2 dX3_leastLoyalty_28 rfl ?_
          refine j_aload_n (pc := 29) g 0 dX3_leastLoyalty_29 rfl ?_
          refine gO_X3_0_1 (σ := σ) (pc := 30) g dX3_leastLoyalty_30 ?_
          refine j_iload (pc := 33) g 3 dX3_leastLoyalty_33 rfl ?_
          obtain ⟨h_35, hf⟩ := gx_ck hf
          refine lO_X3_0_1 (σ := σ) (pc := 35) g h_35 dX3_leastLoyalty_35 ?_
          refine j_min (pc := 36) g q_l_X3_80 q_t_mathmin q_n_math q_c_mathmin (Nat.le_of_ble_eq_true rfl) (Nat.le_of_ble_eq_true rfl) ⟨Nat.zero_le _, Nat.zero_le _⟩ dX3_leastLoyalty_36 ?_
          refine j_istore_n (L' := [(3, .int (if (os_a σ 1 v4.toNatClampNeg) < v3 then (os_a σ 1 v4.toNatClampNeg) else v3)), (0, .ref (ad 0)), (1, .int v1), (4, .int v4), (5, .int v5)]) (pc := 39) g dX3_leastLoyalty_39 rfl (Nat.le_of_ble_eq_true rfl) rfl ?_
          refine j_aload_n (pc := 40) g 1 dX3_leastLoyalty_40 rfl ?_
          refine gO_X3_0_3 (σ := σ) (pc := 41) g dX3_leastLoyalty_41 ?_
          refine j_iload (pc := 44) g 3 dX3_leastLoyalty_44 rfl ?_
          obtain ⟨h_46, hf⟩ := gx_ck hf
          refine lO_X3_0_3 (σ := σ) (pc := 46) g h_46 dX3_leastLoyalty_46 ?_
          refine j_istore (L' := [(4, .int (os_a σ 3 v4.toNatClampNeg)), (3, .int (if (os_a σ 1 v4.toNatClampNeg) < v3 then (os_a σ 1 v4.toNatClampNeg) else v3)), (0, .ref (ad 0)), (1, .int v1), (5, .int v5)]) (pc := 47) g dX3_leastLoyalty_47 (Nat.le_of_ble_eq_true rfl) rfl ?_
          refine j_iinc (v := v5 + 1) (L' := [(5, .int (v5 + 1)), (4, .int (os_a σ 3 v4.toNatClampNeg)), (3, .int (if (os_a σ 1 v4.toNatClampNeg) < v3 then (os_a σ 1 v4.toNatClampNeg) else v3)), (0, .ref (ad 0)), (1, .int v1)]) (pc := 49) g 4 dX3_leastLoyalty_49 rfl rfl (Nat.le_of_ble_eq_true rfl) rfl ?_
          refine j_goto (tgt := 9) (pc := 52) g dX3_leastLoyalty_52 (by decide) ?_
          refine j_sub (pc := 9) g [3, 4, 2, 1, 0] rfl ?_
          exact ih v1 (if (os_a σ 1 v4.toNatClampNeg) < v3 then (os_a σ 1 v4.toNatClampNeg) else v3) (os_a σ 3 v4.toNatClampNeg) (v5 + 1) hf
set_option maxRecDepth 100000 in
set_option maxHeartbeats 4000000 in
theorem cX3_leastLoyalty_ {D : va_G} {t : Nat → ClassId} {aa : gx_AA} {l : Launch} {ad : Nat → Nat} {rs : va_W} {σ : OS} {p1 : Int32} {p2 : Int32} {q : Int32} (hf : fX3_leastLoyalty σ p1 p2 = some q) : gx_C D t (gx_E0 aa) l yX3_leastLoyalty cX3_leastLoyalty 6 (some .int) 1 21 [.ref (ad 0), .int p1, .int p2] (oC ad t σ ++ rs) (oC ad t σ ++ rs) (some (.int q)) := by
  refine gx_intro_i (by decide) (Nat.le_of_ble_eq_true rfl) (fun J g hE0 => ?_)
  have hE : ∀ (v : Int32) (pc : Nat) (L : List (Nat × Value)), some v = some q → decode cX3_leastLoyalty pc = .ok (.ireturn, 1) → narrow .int (.int v) = .int v → J 0 0 (oC ad t σ ++ rs) pc L [.int v] := fun v pc L h h1 h2 => by cases h; exact hE0 pc L h1 h2
  unfold fX3_leastLoyalty at hf
  show J 0 0 (oC ad t σ ++ rs) 0 [(0, .ref (ad 0)), (1, .int p1), (2, .int p2)] []
  refine j_bipush (v := 100) (pc := 0) g dX3_leastLoyalty_0 (by decide) ?_
  refine j_istore_n (L' := [(3, .int (100 : Int32)), (0, .ref (ad 0)), (1, .int p1), (2, .int p2)]) (pc := 2) g dX3_leastLoyalty_2 rfl (Nat.le_of_ble_eq_true rfl) rfl ?_
  refine j_iload_n (pc := 3) g 3 dX3_leastLoyalty_3 rfl ?_
  refine j_istore (L' := [(4, .int p2), (3, .int (100 : Int32)), (0, .ref (ad 0)), (1, .int p1), (2, .int p2)]) (pc := 4) g dX3_leastLoyalty_4 (Nat.le_of_ble_eq_true rfl) rfl ?_
  refine j_iconst (v := 0) (pc := 6) g dX3_leastLoyalty_6 (by decide) ?_
  refine j_istore (L' := [(5, .int (0 : Int32)), (4, .int p2), (3, .int (100 : Int32)), (0, .ref (ad 0)), (1, .int p1), (2, .int p2)]) (pc := 7) g dX3_leastLoyalty_7 (Nat.le_of_ble_eq_true rfl) rfl ?_
  refine j_sub (pc := 9) g [3, 4, 2, 1, 0] rfl ?_
  exact tX3_leastLoyalty_9 g hE 2000 p1 (100 : Int32) p2 (0 : Int32) hf

set_option maxRecDepth 100000 in
set_option maxHeartbeats 4000000 in
theorem tX3_firstRefuser_43 {D : va_G} {t : Nat → ClassId} {aa : gx_AA} {l : Launch} {J : gx_J} {ad : Nat → Nat} {rs : va_W} {σ : OS} {k9 : Int32 → Int32 → Int32 → Int32 → Int32 → Option Int32} {q : Int32} (g : gx_G D t (gx_E0 aa) l ({ frames := 0, cells := 0, slots := 0, locals := 0 }) cX3_firstRefuser RX3 7 J) (hE : ∀ (v : Int32) (pc : Nat) (L : List (Nat × Value)), some v = some q → decode cX3_firstRefuser pc = .ok (.ireturn, 1) → narrow .int (.int v) = .int v → J 0 0 (oC ad t σ ++ rs) pc L [.int v]) (hk9 : ∀ (v1 : Int32) (v3 : Int32) (v4 : Int32) (v5 : Int32) (v6 : Int32), k9 v1 v3 v4 v5 v6 = some q → J 0 0 (oC ad t σ ++ rs) 9 [(0, .ref (ad 0)), (1, .int v1), (3, .int v3), (4, .int v4), (5, .int v5), (6, .int v6)] []) : ∀ (v1 : Int32) (v3 : Int32) (v4 : Int32) (v5 : Int32) (v6 : Int32), fX3_firstRefuser_43 σ k9 v1 v3 v4 v5 v6 = some q → J 0 0 (oC ad t σ ++ rs) 43 [(0, .ref (ad 0)), (1, .int v1), (3, .int v3), (4, .int v4), (5, .int v5), (6, .int v6)] [] := by
  intro v1 v3 v4 v5 v6 hf
  unfold fX3_firstRefuser_43 at hf
  refine j_aload_n (pc := 43) g 0 dX3_firstRefuser_43 rfl ?_
  refine gO_X3_0_3 (σ := σ) (pc := 44) g dX3_firstRefuser_44 ?_
  refine j_iload (pc := 47) g 4 dX3_firstRefuser_47 rfl ?_
  obtain ⟨h_49, hf⟩ := gx_ck hf
  refine lO_X3_0_3 (σ := σ) (pc := 49) g h_49 dX3_firstRefuser_49 ?_
  refine j_istore (L' := [(5, .int (os_a σ 3 v5.toNatClampNeg)), (0, .ref (ad 0)), (1, .int v1), (3, .int v3), (4, .int v4), (6, .int v6)]) (pc := 50) g dX3_firstRefuser_50 (Nat.le_of_ble_eq_true rfl) rfl ?_
  refine j_iinc (v := v6 + 1) (L' := [(6, .int (v6 + 1)), (5, .int (os_a σ 3 v5.toNatClampNeg)), (0, .ref (ad 0)), (1, .int v1), (3, .int v3), (4, .int v4)]) (pc := 52) g 5 dX3_firstRefuser_52 rfl rfl (Nat.le_of_ble_eq_true rfl) rfl ?_
  refine j_goto (tgt := 9) (pc := 55) g dX3_firstRefuser_55 (by decide) ?_
  refine j_sub (pc := 9) g [2, 3, 4, 5, 1, 0] rfl ?_
  exact hk9 v1 v3 v4 (os_a σ 3 v5.toNatClampNeg) (v6 + 1) hf
set_option maxRecDepth 100000 in
set_option maxHeartbeats 4000000 in
theorem tX3_firstRefuser_9 {D : va_G} {t : Nat → ClassId} {aa : gx_AA} {l : Launch} {J : gx_J} {ad : Nat → Nat} {rs : va_W} {σ : OS} {q : Int32} (g : gx_G D t (gx_E0 aa) l ({ frames := 0, cells := 0, slots := 0, locals := 0 }) cX3_firstRefuser RX3 7 J) (hE : ∀ (v : Int32) (pc : Nat) (L : List (Nat × Value)), some v = some q → decode cX3_firstRefuser pc = .ok (.ireturn, 1) → narrow .int (.int v) = .int v → J 0 0 (oC ad t σ ++ rs) pc L [.int v])  : ∀ (n : Nat) (v1 : Int32) (v3 : Int32) (v4 : Int32) (v5 : Int32) (v6 : Int32), fX3_firstRefuser_9 σ n v1 v3 v4 v5 v6 = some q → J 0 0 (oC ad t σ ++ rs) 9 [(0, .ref (ad 0)), (1, .int v1), (3, .int v3), (4, .int v4), (5, .int v5), (6, .int v6)] [] := by
  intro n
  induction n with
  | zero => intro v1 v3 v4 v5 v6 hf; cases hf
  | succ n ih =>
    intro v1 v3 v4 v5 v6 hf
    replace hf := (fX3_firstRefuser_9_s σ n v1 v3 v4 v5 v6).symm.trans hf
    refine j_iload (pc := 9) g 5 dX3_firstRefuser_9 rfl ?_
    refine j_bipush (v := 12) (pc := 11) g dX3_firstRefuser_11 (by decide) ?_
    refine j_icmp_ge (tgt := 58) (pc := 13) g dX3_firstRefuser_13 (by decide) (fun c_13 => ?_) (fun c_13 => ?_)
    · have hf := gx_it c_13 hf
      refine j_iload (pc := 58) g 3 dX3_firstRefuser_58 rfl ?_
      exact hE _ _ _ hf dX3_firstRefuser_60 rfl
    · have hf := gx_if c_13 hf
      refine j_iload (pc := 16) g 4 dX3_firstRefuser_16 rfl ?_
      refine j_iload_n (pc := 18) g 1 dX3_firstRefuser_18 rfl ?_
      refine j_icmp_eq (tgt := 58) (pc := 19) g dX3_firstRefuser_19 (by decide) (fun c_19 => ?_) (fun c_19 => ?_)
      · have hf := gx_it c_19 hf
        refine j_iload (pc := 58) g 3 dX3_firstRefuser_58 rfl ?_
        exact hE _ _ _ hf dX3_firstRefuser_60 rfl
      · have hf := gx_if c_19 hf
        refine j_iload (pc := 22) g 4 dX3_firstRefuser_22 rfl ?_
        refine j_iconst (v := -1) (pc := 24) g dX3_firstRefuser_24 (by decide) ?_
        refine j_icmp_eq (tgt := 58) (pc := 25) g dX3_firstRefuser_25 (by decide) (fun c_25 => ?_) (fun c_25 => ?_)
        · have hf := gx_it c_25 hf
          refine j_iload (pc := 58) g 3 dX3_firstRefuser_58 rfl ?_
          exact hE _ _ _ hf dX3_firstRefuser_60 rfl
        · have hf := gx_if c_25 hf
          refine j_aload_n (pc := 28) g 0 dX3_firstRefuser_28 rfl ?_
          refine gO_X3_0_1 (σ := σ) (pc := 29) g dX3_firstRefuser_29 ?_
          refine j_iload (pc := 32) g 4 dX3_firstRefuser_32 rfl ?_
          obtain ⟨h_34, hf⟩ := gx_ck hf
          refine lO_X3_0_1 (σ := σ) (pc := 34) g h_34 dX3_firstRefuser_34 ?_
          refine j_iload_n (pc := 35) g 2 dX3_firstRefuser_35 rfl ?_
          refine j_icmp_ge (tgt := 43) (pc := 36) g dX3_firstRefuser_36 (by decide) (fun c_36 => ?_) (fun c_36 => ?_)
          · have hf := gx_it c_36 hf
            refine j_sub (pc := 43) g [0, 1, 2, 3, 4, 5] rfl ?_
            exact tX3_firstRefuser_43 g hE ih v1 v3 v4 v5 v6 hf
          · have hf := gx_if c_36 hf
            refine j_iload (pc := 39) g 4 dX3_firstRefuser_39 rfl ?_
            refine j_istore (L' := [(4, .int v5), (0, .ref (ad 0)), (1, .int v1), (3, .int v3), (5, .int v5), (6, .int v6)]) (pc := 41) g dX3_firstRefuser_41 (Nat.le_of_ble_eq_true rfl) rfl ?_
            refine j_sub (pc := 43) g [1, 2, 3, 0, 4, 5] rfl ?_
            exact tX3_firstRefuser_43 g hE ih v1 v3 v5 v5 v6 hf
set_option maxRecDepth 100000 in
set_option maxHeartbeats 4000000 in
theorem cX3_firstRefuser_ {D : va_G} {t : Nat → ClassId} {aa : gx_AA} {l : Launch} {ad : Nat → Nat} {rs : va_W} {σ : OS} {p1 : Int32} {p2 : Int32} {p3 : Int32} {q : Int32} (hf : fX3_firstRefuser σ p1 p2 p3 = some q) : gx_C D t (gx_E0 aa) l yX3_firstRefuser cX3_firstRefuser 7 (some .int) 0 0 [.ref (ad 0), .int p1, .int p2, .int p3] (oC ad t σ ++ rs) (oC ad t σ ++ rs) (some (.int q)) := by
  refine gx_intro_i (by decide) (Nat.le_of_ble_eq_true rfl) (fun J g hE0 => ?_)
  have hE : ∀ (v : Int32) (pc : Nat) (L : List (Nat × Value)), some v = some q → decode cX3_firstRefuser pc = .ok (.ireturn, 1) → narrow .int (.int v) = .int v → J 0 0 (oC ad t σ ++ rs) pc L [.int v] := fun v pc L h h1 h2 => by cases h; exact hE0 pc L h1 h2
  unfold fX3_firstRefuser at hf
  show J 0 0 (oC ad t σ ++ rs) 0 [(0, .ref (ad 0)), (1, .int p1), (2, .int p2), (3, .int p3)] []
  refine j_iconst (v := -1) (pc := 0) g dX3_firstRefuser_0 (by decide) ?_
  refine j_istore (L' := [(4, .int (-1 : Int32)), (0, .ref (ad 0)), (1, .int p1), (2, .int p2), (3, .int p3)]) (pc := 1) g dX3_firstRefuser_1 (Nat.le_of_ble_eq_true rfl) rfl ?_
  refine j_iload_n (pc := 3) g 3 dX3_firstRefuser_3 rfl ?_
  refine j_istore (L' := [(5, .int p2), (4, .int (-1 : Int32)), (0, .ref (ad 0)), (1, .int p1), (2, .int p2), (3, .int p3)]) (pc := 4) g dX3_firstRefuser_4 (Nat.le_of_ble_eq_true rfl) rfl ?_
  refine j_iconst (v := 0) (pc := 6) g dX3_firstRefuser_6 (by decide) ?_
  refine j_istore (L' := [(6, .int (0 : Int32)), (5, .int p2), (4, .int (-1 : Int32)), (0, .ref (ad 0)), (1, .int p1), (2, .int p2), (3, .int p3)]) (pc := 7) g dX3_firstRefuser_7 (Nat.le_of_ble_eq_true rfl) rfl ?_
  refine j_sub (pc := 9) g [3, 4, 6, 2, 1, 0] rfl ?_
  exact tX3_firstRefuser_9 g hE 2000 p1 p3 (-1 : Int32) p2 (0 : Int32) hf
theorem lO_X3_0_0 {D : va_G} {t : Nat → ClassId} {aa : gx_AA} {l : Launch} {R : Room} {cc : ByteArray} {nL : Nat} {J : gx_J} {ad : Nat → Nat} {rs : va_W} {k n pc : Nat} {L : List (Nat × Value)} {st : List Value} (g : gx_G D t (gx_E0 aa) l R cc RX3 nL J) {σ : OS} {i : Int32} (hin : gx_in i 12) (hd : decode cc pc = .ok (.iaload, 1)) (kk : J k n (oC ad t σ ++ rs) (pc + 1) L (.int (os_a σ 0 i.toNatClampNeg) :: st)) : J k n (oC ad t σ ++ rs) pc L (.int i :: .ref (ad 1) :: st) := j_iald g 1 rfl hin hd kk
set_option maxRecDepth 100000 in
set_option maxHeartbeats 4000000 in
theorem cX3_isSortedBefore_ {D : va_G} {t : Nat → ClassId} {aa : gx_AA} {l : Launch} {ad : Nat → Nat} {rs : va_W} {σ : OS} {p1 : Int32} {p2 : Int32} {q : Int32} (hf : fX3_isSortedBefore σ p1 p2 = some q) : gx_C D t (gx_E0 aa) l yX3_isSortedBefore cX3_isSortedBefore 3 (some .boolean) 0 0 [.ref (ad 0), .int p1, .int p2] (oC ad t σ ++ rs) (oC ad t σ ++ rs) (some (.int q)) := by
  refine gx_intro_i (by decide) (Nat.le_of_ble_eq_true rfl) (fun J g hE0 => ?_)
  have hE : ∀ (v : Int32) (pc : Nat) (L : List (Nat × Value)), some v = some q → decode cX3_isSortedBefore pc = .ok (.ireturn, 1) → narrow .boolean (.int v) = .int v → J 0 0 (oC ad t σ ++ rs) pc L [.int v] := fun v pc L h h1 h2 => by cases h; exact hE0 pc L h1 h2
  unfold fX3_isSortedBefore at hf
  show J 0 0 (oC ad t σ ++ rs) 0 [(0, .ref (ad 0)), (1, .int p1), (2, .int p2)] []
  refine j_aload_n (pc := 0) g 0 dX3_isSortedBefore_0 rfl ?_
  refine gO_X3_0_0 (σ := σ) (pc := 1) g dX3_isSortedBefore_1 ?_
  refine j_iload_n (pc := 4) g 1 dX3_isSortedBefore_4 rfl ?_
  obtain ⟨h_5, hf⟩ := gx_ck hf
  refine lO_X3_0_0 (σ := σ) (pc := 5) g h_5 dX3_isSortedBefore_5 ?_
  refine j_aload_n (pc := 6) g 0 dX3_isSortedBefore_6 rfl ?_
  refine gO_X3_0_0 (σ := σ) (pc := 7) g dX3_isSortedBefore_7 ?_
  refine j_iload_n (pc := 10) g 2 dX3_isSortedBefore_10 rfl ?_
  obtain ⟨h_11, hf⟩ := gx_ck hf
  refine lO_X3_0_0 (σ := σ) (pc := 11) g h_11 dX3_isSortedBefore_11 ?_
  refine j_icmp_eq (tgt := 36) (pc := 12) g dX3_isSortedBefore_12 (by decide) (fun c_12 => ?_) (fun c_12 => ?_)
  · have hf := gx_it c_12 hf
    refine j_aload_n (pc := 36) g 0 dX3_isSortedBefore_36 rfl ?_
    refine gO_X3_0_1 (σ := σ) (pc := 37) g dX3_isSortedBefore_37 ?_
    refine j_iload_n (pc := 40) g 1 dX3_isSortedBefore_40 rfl ?_
    obtain ⟨h_41, hf⟩ := gx_ck hf
    refine lO_X3_0_1 (σ := σ) (pc := 41) g h_41 dX3_isSortedBefore_41 ?_
    refine j_aload_n (pc := 42) g 0 dX3_isSortedBefore_42 rfl ?_
    refine gO_X3_0_1 (σ := σ) (pc := 43) g dX3_isSortedBefore_43 ?_
    refine j_iload_n (pc := 46) g 2 dX3_isSortedBefore_46 rfl ?_
    obtain ⟨h_47, hf⟩ := gx_ck hf
    refine lO_X3_0_1 (σ := σ) (pc := 47) g h_47 dX3_isSortedBefore_47 ?_
    refine j_icmp_eq (tgt := 72) (pc := 48) g dX3_isSortedBefore_48 (by decide) (fun c_48 => ?_) (fun c_48 => ?_)
    · have hf := gx_it c_48 hf
      refine j_iload_n (pc := 72) g 1 dX3_isSortedBefore_72 rfl ?_
      refine j_iload_n (pc := 73) g 2 dX3_isSortedBefore_73 rfl ?_
      refine j_icmp_ge (tgt := 81) (pc := 74) g dX3_isSortedBefore_74 (by decide) (fun c_74 => ?_) (fun c_74 => ?_)
      · have hf := gx_it c_74 hf
        refine j_iconst (v := 0) (pc := 81) g dX3_isSortedBefore_81 (by decide) ?_
        exact hE _ _ _ hf dX3_isSortedBefore_82 rfl
      · have hf := gx_if c_74 hf
        refine j_iconst (v := 1) (pc := 77) g dX3_isSortedBefore_77 (by decide) ?_
        refine j_goto (tgt := 82) (pc := 78) g dX3_isSortedBefore_78 (by decide) ?_
        exact hE _ _ _ hf dX3_isSortedBefore_82 rfl
    · have hf := gx_if c_48 hf
      refine j_aload_n (pc := 51) g 0 dX3_isSortedBefore_51 rfl ?_
      refine gO_X3_0_1 (σ := σ) (pc := 52) g dX3_isSortedBefore_52 ?_
      refine j_iload_n (pc := 55) g 1 dX3_isSortedBefore_55 rfl ?_
      obtain ⟨h_56, hf⟩ := gx_ck hf
      refine lO_X3_0_1 (σ := σ) (pc := 56) g h_56 dX3_isSortedBefore_56 ?_
      refine j_aload_n (pc := 57) g 0 dX3_isSortedBefore_57 rfl ?_
      refine gO_X3_0_1 (σ := σ) (pc := 58) g dX3_isSortedBefore_58 ?_
      refine j_iload_n (pc := 61) g 2 dX3_isSortedBefore_61 rfl ?_
      obtain ⟨h_62, hf⟩ := gx_ck hf
      refine lO_X3_0_1 (σ := σ) (pc := 62) g h_62 dX3_isSortedBefore_62 ?_
      refine j_icmp_le (tgt := 70) (pc := 63) g dX3_isSortedBefore_63 (by decide) (fun c_63 => ?_) (fun c_63 => ?_)
      · have hf := gx_it c_63 hf
        refine j_iconst (v := 0) (pc := 70) g dX3_isSortedBefore_70 (by decide) ?_
        exact hE _ _ _ hf dX3_isSortedBefore_71 rfl
      · have hf := gx_if c_63 hf
        refine j_iconst (v := 1) (pc := 66) g dX3_isSortedBefore_66 (by decide) ?_
        refine j_goto (tgt := 71) (pc := 67) g dX3_isSortedBefore_67 (by decide) ?_
        exact hE _ _ _ hf dX3_isSortedBefore_71 rfl
  · have hf := gx_if c_12 hf
    refine j_aload_n (pc := 15) g 0 dX3_isSortedBefore_15 rfl ?_
    refine gO_X3_0_0 (σ := σ) (pc := 16) g dX3_isSortedBefore_16 ?_
    refine j_iload_n (pc := 19) g 1 dX3_isSortedBefore_19 rfl ?_
    obtain ⟨h_20, hf⟩ := gx_ck hf
    refine lO_X3_0_0 (σ := σ) (pc := 20) g h_20 dX3_isSortedBefore_20 ?_
    refine j_aload_n (pc := 21) g 0 dX3_isSortedBefore_21 rfl ?_
    refine gO_X3_0_0 (σ := σ) (pc := 22) g dX3_isSortedBefore_22 ?_
    refine j_iload_n (pc := 25) g 2 dX3_isSortedBefore_25 rfl ?_
    obtain ⟨h_26, hf⟩ := gx_ck hf
    refine lO_X3_0_0 (σ := σ) (pc := 26) g h_26 dX3_isSortedBefore_26 ?_
    refine j_icmp_le (tgt := 34) (pc := 27) g dX3_isSortedBefore_27 (by decide) (fun c_27 => ?_) (fun c_27 => ?_)
    · have hf := gx_it c_27 hf
      refine j_iconst (v := 0) (pc := 34) g dX3_isSortedBefore_34 (by decide) ?_
      exact hE _ _ _ hf dX3_isSortedBefore_35 rfl
    · have hf := gx_if c_27 hf
      refine j_iconst (v := 1) (pc := 30) g dX3_isSortedBefore_30 (by decide) ?_
      refine j_goto (tgt := 35) (pc := 31) g dX3_isSortedBefore_31 (by decide) ?_
      exact hE _ _ _ hf dX3_isSortedBefore_35 rfl
theorem gDD_X4_1_0 {D : va_G} {t : Nat → ClassId} {aa : gx_AA} {l : Launch} {R : Room} {cc : ByteArray} {nL : Nat} {J : gx_J} {ad bd : Nat → Nat} {rs : va_W} {k n pc : Nat} {L : List (Nat × Value)} {st : List Value} (g : gx_G D t (gx_E0 aa) l R cc RX4 nL J) {σ : (OS × OS)} (hd : decode cc pc = .ok (.getfield 9, 3)) (kk : J k n (dC ad t σ.1 ++ (dC bd t σ.2 ++ rs)) (pc + 3) L (.ref (bd 1) :: st)) : J k n (dC ad t σ.1 ++ (dC bd t σ.2 ++ rs)) pc L (.ref (bd 0) :: st) := j_get g in_X4 4 rfl rfl 0 (by decide) q_f_X4_9 rfl rfl hd kk
theorem gDD_X4_0_0 {D : va_G} {t : Nat → ClassId} {aa : gx_AA} {l : Launch} {R : Room} {cc : ByteArray} {nL : Nat} {J : gx_J} {ad bd : Nat → Nat} {rs : va_W} {k n pc : Nat} {L : List (Nat × Value)} {st : List Value} (g : gx_G D t (gx_E0 aa) l R cc RX4 nL J) {σ : (OS × OS)} (hd : decode cc pc = .ok (.getfield 9, 3)) (kk : J k n (dC ad t σ.1 ++ (dC bd t σ.2 ++ rs)) (pc + 3) L (.ref (ad 1) :: st)) : J k n (dC ad t σ.1 ++ (dC bd t σ.2 ++ rs)) pc L (.ref (ad 0) :: st) := j_get g in_X4 0 rfl rfl 0 (by decide) q_f_X4_9 rfl rfl hd kk
theorem yDD_X4_1_0_0_0 {D : va_G} {t : Nat → ClassId} {aa : gx_AA} {l : Launch} {R : Room} {cc : ByteArray} {nL : Nat} {J : gx_J} {ad bd : Nat → Nat} {rs : va_W} {k n pc : Nat} {L : List (Nat × Value)} {st : List Value} (g : gx_G D t (gx_E0 aa) l R cc RX4 nL J) {σ : (OS × OS)} (hfr : 1 ≤ R.frames) (hlo : (st.map fun v => v.category).sum + (nativeFrameWords "java/lang/System" "arraycopy" 5 + 11) ≤ R.locals) (hd : decode cc pc = .ok (.invokestatic 21, 3)) (kk : J k n (dC ad t (os_cp σ.2 0 σ.1 0 6) ++ (dC bd t σ.2 ++ rs)) (pc + 3) L st) : J k n (dC ad t σ.1 ++ (dC bd t σ.2 ++ rs)) pc L (.int 6 :: .int 0 :: .ref (ad 1) :: .int 0 :: .ref (bd 1) :: st) := j_copyi (w' := dC ad t (os_cp σ.2 0 σ.1 0 6) ++ (dC bd t σ.2 ++ rs)) g q_l_X4_21 q_v_copy q_t_copy q_n_system 5 1 rfl rfl (by decide) (by decide) (by decide) (by decide) (by decide) hfr hlo rfl hd kk
theorem gDD_X4_1_1 {D : va_G} {t : Nat → ClassId} {aa : gx_AA} {l : Launch} {R : Room} {cc : ByteArray} {nL : Nat} {J : gx_J} {ad bd : Nat → Nat} {rs : va_W} {k n pc : Nat} {L : List (Nat × Value)} {st : List Value} (g : gx_G D t (gx_E0 aa) l R cc RX4 nL J) {σ : (OS × OS)} (hd : decode cc pc = .ok (.getfield 15, 3)) (kk : J k n (dC ad t σ.1 ++ (dC bd t σ.2 ++ rs)) (pc + 3) L (.ref (bd 2) :: st)) : J k n (dC ad t σ.1 ++ (dC bd t σ.2 ++ rs)) pc L (.ref (bd 0) :: st) := j_get g in_X4 4 rfl rfl 1 (by decide) q_f_X4_15 rfl rfl hd kk
theorem gDD_X4_0_1 {D : va_G} {t : Nat → ClassId} {aa : gx_AA} {l : Launch} {R : Room} {cc : ByteArray} {nL : Nat} {J : gx_J} {ad bd : Nat → Nat} {rs : va_W} {k n pc : Nat} {L : List (Nat × Value)} {st : List Value} (g : gx_G D t (gx_E0 aa) l R cc RX4 nL J) {σ : (OS × OS)} (hd : decode cc pc = .ok (.getfield 15, 3)) (kk : J k n (dC ad t σ.1 ++ (dC bd t σ.2 ++ rs)) (pc + 3) L (.ref (ad 2) :: st)) : J k n (dC ad t σ.1 ++ (dC bd t σ.2 ++ rs)) pc L (.ref (ad 0) :: st) := j_get g in_X4 0 rfl rfl 1 (by decide) q_f_X4_15 rfl rfl hd kk
theorem yDD_X4_1_1_0_1 {D : va_G} {t : Nat → ClassId} {aa : gx_AA} {l : Launch} {R : Room} {cc : ByteArray} {nL : Nat} {J : gx_J} {ad bd : Nat → Nat} {rs : va_W} {k n pc : Nat} {L : List (Nat × Value)} {st : List Value} (g : gx_G D t (gx_E0 aa) l R cc RX4 nL J) {σ : (OS × OS)} (hfr : 1 ≤ R.frames) (hlo : (st.map fun v => v.category).sum + (nativeFrameWords "java/lang/System" "arraycopy" 5 + 11) ≤ R.locals) (hd : decode cc pc = .ok (.invokestatic 21, 3)) (kk : J k n (dC ad t (os_cp σ.2 1 σ.1 1 6) ++ (dC bd t σ.2 ++ rs)) (pc + 3) L st) : J k n (dC ad t σ.1 ++ (dC bd t σ.2 ++ rs)) pc L (.int 6 :: .int 0 :: .ref (ad 2) :: .int 0 :: .ref (bd 2) :: st) := j_copyi (w' := dC ad t (os_cp σ.2 1 σ.1 1 6) ++ (dC bd t σ.2 ++ rs)) g q_l_X4_21 q_v_copy q_t_copy q_n_system 6 2 rfl rfl (by decide) (by decide) (by decide) (by decide) (by decide) hfr hlo rfl hd kk
theorem gDD_X4_1_2 {D : va_G} {t : Nat → ClassId} {aa : gx_AA} {l : Launch} {R : Room} {cc : ByteArray} {nL : Nat} {J : gx_J} {ad bd : Nat → Nat} {rs : va_W} {k n pc : Nat} {L : List (Nat × Value)} {st : List Value} (g : gx_G D t (gx_E0 aa) l R cc RX4 nL J) {σ : (OS × OS)} (hd : decode cc pc = .ok (.getfield 18, 3)) (kk : J k n (dC ad t σ.1 ++ (dC bd t σ.2 ++ rs)) (pc + 3) L (.ref (bd 3) :: st)) : J k n (dC ad t σ.1 ++ (dC bd t σ.2 ++ rs)) pc L (.ref (bd 0) :: st) := j_get g in_X4 4 rfl rfl 2 (by decide) q_f_X4_18 rfl rfl hd kk
theorem gDD_X4_0_2 {D : va_G} {t : Nat → ClassId} {aa : gx_AA} {l : Launch} {R : Room} {cc : ByteArray} {nL : Nat} {J : gx_J} {ad bd : Nat → Nat} {rs : va_W} {k n pc : Nat} {L : List (Nat × Value)} {st : List Value} (g : gx_G D t (gx_E0 aa) l R cc RX4 nL J) {σ : (OS × OS)} (hd : decode cc pc = .ok (.getfield 18, 3)) (kk : J k n (dC ad t σ.1 ++ (dC bd t σ.2 ++ rs)) (pc + 3) L (.ref (ad 3) :: st)) : J k n (dC ad t σ.1 ++ (dC bd t σ.2 ++ rs)) pc L (.ref (ad 0) :: st) := j_get g in_X4 0 rfl rfl 2 (by decide) q_f_X4_18 rfl rfl hd kk
theorem yDD_X4_1_2_0_2 {D : va_G} {t : Nat → ClassId} {aa : gx_AA} {l : Launch} {R : Room} {cc : ByteArray} {nL : Nat} {J : gx_J} {ad bd : Nat → Nat} {rs : va_W} {k n pc : Nat} {L : List (Nat × Value)} {st : List Value} (g : gx_G D t (gx_E0 aa) l R cc RX4 nL J) {σ : (OS × OS)} (hfr : 1 ≤ R.frames) (hlo : (st.map fun v => v.category).sum + (nativeFrameWords "java/lang/System" "arraycopy" 5 + 11) ≤ R.locals) (hd : decode cc pc = .ok (.invokestatic 21, 3)) (kk : J k n (dC ad t (os_cp σ.2 2 σ.1 2 6) ++ (dC bd t σ.2 ++ rs)) (pc + 3) L st) : J k n (dC ad t σ.1 ++ (dC bd t σ.2 ++ rs)) pc L (.int 6 :: .int 0 :: .ref (ad 3) :: .int 0 :: .ref (bd 3) :: st) := j_copyi (w' := dC ad t (os_cp σ.2 2 σ.1 2 6) ++ (dC bd t σ.2 ++ rs)) g q_l_X4_21 q_v_copy q_t_copy q_n_system 7 3 rfl rfl (by decide) (by decide) (by decide) (by decide) (by decide) hfr hlo rfl hd kk
theorem gDD_X4_1_3 {D : va_G} {t : Nat → ClassId} {aa : gx_AA} {l : Launch} {R : Room} {cc : ByteArray} {nL : Nat} {J : gx_J} {ad bd : Nat → Nat} {rs : va_W} {k n pc : Nat} {L : List (Nat × Value)} {st : List Value} (g : gx_G D t (gx_E0 aa) l R cc RX4 nL J) {σ : (OS × OS)} (hd : decode cc pc = .ok (.getfield 27, 3)) (kk : J k n (dC ad t σ.1 ++ (dC bd t σ.2 ++ rs)) (pc + 3) L (.int (os_f σ.2 3) :: st)) : J k n (dC ad t σ.1 ++ (dC bd t σ.2 ++ rs)) pc L (.ref (bd 0) :: st) := j_get g in_X4 4 rfl rfl 3 (by decide) q_f_X4_27 rfl rfl hd kk
theorem pDD_X4_0_3 {D : va_G} {t : Nat → ClassId} {aa : gx_AA} {l : Launch} {R : Room} {cc : ByteArray} {nL : Nat} {J : gx_J} {ad bd : Nat → Nat} {rs : va_W} {k n pc : Nat} {L : List (Nat × Value)} {st : List Value} (g : gx_G D t (gx_E0 aa) l R cc RX4 nL J) {σ : (OS × OS)} {v : Int32} (hd : decode cc pc = .ok (.putfield 27, 3)) (kk : J k n (dC ad t (os_sf σ.1 3 v) ++ (dC bd t σ.2 ++ rs)) (pc + 3) L st) : J k n (dC ad t σ.1 ++ (dC bd t σ.2 ++ rs)) pc L (.int v :: .ref (ad 0) :: st) := j_put (w' := dC ad t (os_sf σ.1 3 v) ++ (dC bd t σ.2 ++ rs)) g in_X4 0 rfl rfl 3 (by decide) q_f_X4_27 rfl tyX4 tyX4_ok nmX4 rfl (ty := .int) (by decide +kernel) rfl rfl (Nat.le_of_ble_eq_true rfl) rfl hd kk
theorem gDD_X4_1_4 {D : va_G} {t : Nat → ClassId} {aa : gx_AA} {l : Launch} {R : Room} {cc : ByteArray} {nL : Nat} {J : gx_J} {ad bd : Nat → Nat} {rs : va_W} {k n pc : Nat} {L : List (Nat × Value)} {st : List Value} (g : gx_G D t (gx_E0 aa) l R cc RX4 nL J) {σ : (OS × OS)} (hd : decode cc pc = .ok (.getfield 31, 3)) (kk : J k n (dC ad t σ.1 ++ (dC bd t σ.2 ++ rs)) (pc + 3) L (.int (os_f σ.2 4) :: st)) : J k n (dC ad t σ.1 ++ (dC bd t σ.2 ++ rs)) pc L (.ref (bd 0) :: st) := j_get g in_X4 4 rfl rfl 4 (by decide) q_f_X4_31 rfl rfl hd kk
theorem pDD_X4_0_4 {D : va_G} {t : Nat → ClassId} {aa : gx_AA} {l : Launch} {R : Room} {cc : ByteArray} {nL : Nat} {J : gx_J} {ad bd : Nat → Nat} {rs : va_W} {k n pc : Nat} {L : List (Nat × Value)} {st : List Value} (g : gx_G D t (gx_E0 aa) l R cc RX4 nL J) {σ : (OS × OS)} {v : Int32} (hd : decode cc pc = .ok (.putfield 31, 3)) (kk : J k n (dC ad t (os_sf σ.1 4 v) ++ (dC bd t σ.2 ++ rs)) (pc + 3) L st) : J k n (dC ad t σ.1 ++ (dC bd t σ.2 ++ rs)) pc L (.int v :: .ref (ad 0) :: st) := j_put (w' := dC ad t (os_sf σ.1 4 v) ++ (dC bd t σ.2 ++ rs)) g in_X4 0 rfl rfl 4 (by decide) q_f_X4_31 rfl tyX4 tyX4_ok nmX4 rfl (ty := .int) (by decide +kernel) rfl rfl (Nat.le_of_ble_eq_true rfl) rfl hd kk
set_option maxRecDepth 100000 in
set_option maxHeartbeats 4000000 in
theorem cX4_copyFrom_ {D : va_G} {t : Nat → ClassId} {aa : gx_AA} {l : Launch} {ad bd : Nat → Nat} {rs : va_W} {σ : (OS × OS)} {q : (OS × OS)} (hf : fX4_copyFrom σ = some q) : gx_C D t (gx_E0 aa) l yX4_copyFrom cX4_copyFrom 2 none 1 40 [.ref (ad 0), .ref (bd 0)] (dC ad t σ.1 ++ (dC bd t σ.2 ++ rs)) (dC ad t q.1 ++ (dC bd t q.2 ++ rs)) none := by
  refine gx_intro_v (by decide) (Nat.le_of_ble_eq_true rfl) (fun J g hE0 => ?_)
  have hE : ∀ (σ : (OS × OS)) (pc : Nat) (L : List (Nat × Value)), some σ = some q → decode cX4_copyFrom pc = .ok (.return_, 1) → J 0 0 (dC ad t σ.1 ++ (dC bd t σ.2 ++ rs)) pc L [] := fun σ pc L h h1 => by cases h; exact hE0 pc L h1
  unfold fX4_copyFrom at hf
  show J 0 0 (dC ad t σ.1 ++ (dC bd t σ.2 ++ rs)) 0 [(0, .ref (ad 0)), (1, .ref (bd 0))] []
  refine j_aload_n (pc := 0) g 1 dX4_copyFrom_0 rfl ?_
  refine gDD_X4_1_0 (σ := σ) (pc := 1) g dX4_copyFrom_1 ?_
  refine j_iconst (v := 0) (pc := 4) g dX4_copyFrom_4 (by decide) ?_
  refine j_aload_n (pc := 5) g 0 dX4_copyFrom_5 rfl ?_
  refine gDD_X4_0_0 (σ := σ) (pc := 6) g dX4_copyFrom_6 ?_
  refine j_iconst (v := 0) (pc := 9) g dX4_copyFrom_9 (by decide) ?_
  refine j_bipush (v := 6) (pc := 10) g dX4_copyFrom_10 (by decide) ?_
  refine yDD_X4_1_0_0_0 (σ := σ) (pc := 12) g (Nat.le_of_ble_eq_true rfl) (Nat.le_of_ble_eq_true rfl) dX4_copyFrom_12 ?_
  refine j_aload_n (pc := 15) g 1 dX4_copyFrom_15 rfl ?_
  refine gDD_X4_1_1 (σ := (os_cp σ.2 0 σ.1 0 6, σ.2)) (pc := 16) g dX4_copyFrom_16 ?_
  refine j_iconst (v := 0) (pc := 19) g dX4_copyFrom_19 (by decide) ?_
  refine j_aload_n (pc := 20) g 0 dX4_copyFrom_20 rfl ?_
  refine gDD_X4_0_1 (σ := (os_cp σ.2 0 σ.1 0 6, σ.2)) (pc := 21) g dX4_copyFrom_21 ?_
  refine j_iconst (v := 0) (pc := 24) g dX4_copyFrom_24 (by decide) ?_
  refine j_bipush (v := 6) (pc := 25) g dX4_copyFrom_25 (by decide) ?_
  refine yDD_X4_1_1_0_1 (σ := (os_cp σ.2 0 σ.1 0 6, σ.2)) (pc := 27) g (Nat.le_of_ble_eq_true rfl) (Nat.le_of_ble_eq_true rfl) dX4_copyFrom_27 ?_
  refine j_aload_n (pc := 30) g 1 dX4_copyFrom_30 rfl ?_
  refine gDD_X4_1_2 (σ := (os_cp σ.2 1 (os_cp σ.2 0 σ.1 0 6) 1 6, σ.2)) (pc := 31) g dX4_copyFrom_31 ?_
  refine j_iconst (v := 0) (pc := 34) g dX4_copyFrom_34 (by decide) ?_
  refine j_aload_n (pc := 35) g 0 dX4_copyFrom_35 rfl ?_
  refine gDD_X4_0_2 (σ := (os_cp σ.2 1 (os_cp σ.2 0 σ.1 0 6) 1 6, σ.2)) (pc := 36) g dX4_copyFrom_36 ?_
  refine j_iconst (v := 0) (pc := 39) g dX4_copyFrom_39 (by decide) ?_
  refine j_bipush (v := 6) (pc := 40) g dX4_copyFrom_40 (by decide) ?_
  refine yDD_X4_1_2_0_2 (σ := (os_cp σ.2 1 (os_cp σ.2 0 σ.1 0 6) 1 6, σ.2)) (pc := 42) g (Nat.le_of_ble_eq_true rfl) (Nat.le_of_ble_eq_true rfl) dX4_copyFrom_42 ?_
  refine j_aload_n (pc := 45) g 0 dX4_copyFrom_45 rfl ?_
  refine j_aload_n (pc := 46) g 1 dX4_copyFrom_46 rfl ?_
  refine gDD_X4_1_3 (σ := (os_cp σ.2 2 (os_cp σ.2 1 (os_cp σ.2 0 σ.1 0 6) 1 6) 2 6, σ.2)) (pc := 47) g dX4_copyFrom_47 ?_
  refine pDD_X4_0_3 (σ := (os_cp σ.2 2 (os_cp σ.2 1 (os_cp σ.2 0 σ.1 0 6) 1 6) 2 6, σ.2)) (pc := 50) g dX4_copyFrom_50 ?_
  refine j_aload_n (pc := 53) g 0 dX4_copyFrom_53 rfl ?_
  refine j_aload_n (pc := 54) g 1 dX4_copyFrom_54 rfl ?_
  refine gDD_X4_1_4 (σ := (os_sf (os_cp σ.2 2 (os_cp σ.2 1 (os_cp σ.2 0 σ.1 0 6) 1 6) 2 6) 3 (os_f σ.2 3), σ.2)) (pc := 55) g dX4_copyFrom_55 ?_
  refine pDD_X4_0_4 (σ := (os_sf (os_cp σ.2 2 (os_cp σ.2 1 (os_cp σ.2 0 σ.1 0 6) 1 6) 2 6) 3 (os_f σ.2 3), σ.2)) (pc := 58) g dX4_copyFrom_58 ?_
  exact hE _ _ _ hf dX4_copyFrom_61
theorem gD_X4_0_3 {D : va_G} {t : Nat → ClassId} {aa : gx_AA} {l : Launch} {R : Room} {cc : ByteArray} {nL : Nat} {J : gx_J} {ad : Nat → Nat} {rs : va_W} {k n pc : Nat} {L : List (Nat × Value)} {st : List Value} (g : gx_G D t (gx_E0 aa) l R cc RX4 nL J) {σ : OS} (hd : decode cc pc = .ok (.getfield 27, 3)) (kk : J k n (dC ad t σ ++ rs) (pc + 3) L (.int (os_f σ 3) :: st)) : J k n (dC ad t σ ++ rs) pc L (.ref (ad 0) :: st) := j_get g in_X4 0 rfl rfl 3 (by decide) q_f_X4_27 rfl rfl hd kk
theorem gD_X4_0_0 {D : va_G} {t : Nat → ClassId} {aa : gx_AA} {l : Launch} {R : Room} {cc : ByteArray} {nL : Nat} {J : gx_J} {ad : Nat → Nat} {rs : va_W} {k n pc : Nat} {L : List (Nat × Value)} {st : List Value} (g : gx_G D t (gx_E0 aa) l R cc RX4 nL J) {σ : OS} (hd : decode cc pc = .ok (.getfield 9, 3)) (kk : J k n (dC ad t σ ++ rs) (pc + 3) L (.ref (ad 1) :: st)) : J k n (dC ad t σ ++ rs) pc L (.ref (ad 0) :: st) := j_get g in_X4 0 rfl rfl 0 (by decide) q_f_X4_9 rfl rfl hd kk
theorem sD_X4_0_0 {D : va_G} {t : Nat → ClassId} {aa : gx_AA} {l : Launch} {R : Room} {cc : ByteArray} {nL : Nat} {J : gx_J} {ad : Nat → Nat} {rs : va_W} {k n pc : Nat} {L : List (Nat × Value)} {st : List Value} (g : gx_G D t (gx_E0 aa) l R cc RX4 nL J) {σ : OS} {i x : Int32} (hin : gx_in i 6) (hd : decode cc pc = .ok (.iastore, 1)) (kk : J k n (dC ad t (os_sa σ 0 i.toNatClampNeg x) ++ rs) (pc + 1) L st) : J k n (dC ad t σ ++ rs) pc L (.int x :: .int i :: .ref (ad 1) :: st) := j_iast (w' := dC ad t (os_sa σ 0 i.toNatClampNeg x) ++ rs) g 1 rfl hin rfl hd kk
theorem gD_X4_0_1 {D : va_G} {t : Nat → ClassId} {aa : gx_AA} {l : Launch} {R : Room} {cc : ByteArray} {nL : Nat} {J : gx_J} {ad : Nat → Nat} {rs : va_W} {k n pc : Nat} {L : List (Nat × Value)} {st : List Value} (g : gx_G D t (gx_E0 aa) l R cc RX4 nL J) {σ : OS} (hd : decode cc pc = .ok (.getfield 15, 3)) (kk : J k n (dC ad t σ ++ rs) (pc + 3) L (.ref (ad 2) :: st)) : J k n (dC ad t σ ++ rs) pc L (.ref (ad 0) :: st) := j_get g in_X4 0 rfl rfl 1 (by decide) q_f_X4_15 rfl rfl hd kk
theorem sD_X4_0_1 {D : va_G} {t : Nat → ClassId} {aa : gx_AA} {l : Launch} {R : Room} {cc : ByteArray} {nL : Nat} {J : gx_J} {ad : Nat → Nat} {rs : va_W} {k n pc : Nat} {L : List (Nat × Value)} {st : List Value} (g : gx_G D t (gx_E0 aa) l R cc RX4 nL J) {σ : OS} {i x : Int32} (hin : gx_in i 6) (hd : decode cc pc = .ok (.iastore, 1)) (kk : J k n (dC ad t (os_sa σ 1 i.toNatClampNeg x) ++ rs) (pc + 1) L st) : J k n (dC ad t σ ++ rs) pc L (.int x :: .int i :: .ref (ad 2) :: st) := j_iast (w' := dC ad t (os_sa σ 1 i.toNatClampNeg x) ++ rs) g 2 rfl hin rfl hd kk
theorem gD_X4_0_2 {D : va_G} {t : Nat → ClassId} {aa : gx_AA} {l : Launch} {R : Room} {cc : ByteArray} {nL : Nat} {J : gx_J} {ad : Nat → Nat} {rs : va_W} {k n pc : Nat} {L : List (Nat × Value)} {st : List Value} (g : gx_G D t (gx_E0 aa) l R cc RX4 nL J) {σ : OS} (hd : decode cc pc = .ok (.getfield 18, 3)) (kk : J k n (dC ad t σ ++ rs) (pc + 3) L (.ref (ad 3) :: st)) : J k n (dC ad t σ ++ rs) pc L (.ref (ad 0) :: st) := j_get g in_X4 0 rfl rfl 2 (by decide) q_f_X4_18 rfl rfl hd kk
theorem sD_X4_0_2 {D : va_G} {t : Nat → ClassId} {aa : gx_AA} {l : Launch} {R : Room} {cc : ByteArray} {nL : Nat} {J : gx_J} {ad : Nat → Nat} {rs : va_W} {k n pc : Nat} {L : List (Nat × Value)} {st : List Value} (g : gx_G D t (gx_E0 aa) l R cc RX4 nL J) {σ : OS} {i x : Int32} (hin : gx_in i 6) (hd : decode cc pc = .ok (.iastore, 1)) (kk : J k n (dC ad t (os_sa σ 2 i.toNatClampNeg x) ++ rs) (pc + 1) L st) : J k n (dC ad t σ ++ rs) pc L (.int x :: .int i :: .ref (ad 3) :: st) := j_iast (w' := dC ad t (os_sa σ 2 i.toNatClampNeg x) ++ rs) g 3 rfl hin rfl hd kk
theorem pD_X4_0_3 {D : va_G} {t : Nat → ClassId} {aa : gx_AA} {l : Launch} {R : Room} {cc : ByteArray} {nL : Nat} {J : gx_J} {ad : Nat → Nat} {rs : va_W} {k n pc : Nat} {L : List (Nat × Value)} {st : List Value} (g : gx_G D t (gx_E0 aa) l R cc RX4 nL J) {σ : OS} {v : Int32} (hd : decode cc pc = .ok (.putfield 27, 3)) (kk : J k n (dC ad t (os_sf σ 3 v) ++ rs) (pc + 3) L st) : J k n (dC ad t σ ++ rs) pc L (.int v :: .ref (ad 0) :: st) := j_put (w' := dC ad t (os_sf σ 3 v) ++ rs) g in_X4 0 rfl rfl 3 (by decide) q_f_X4_27 rfl tyX4 tyX4_ok nmX4 rfl (ty := .int) (by decide +kernel) rfl rfl (Nat.le_of_ble_eq_true rfl) rfl hd kk
set_option maxRecDepth 100000 in
set_option maxHeartbeats 4000000 in
theorem cX4_add_ {D : va_G} {t : Nat → ClassId} {aa : gx_AA} {l : Launch} {ad : Nat → Nat} {rs : va_W} {σ : OS} {p1 : Int32} {p2 : Int32} {p3 : Int32} {q : (Int32 × OS)} (hf : fX4_add σ p1 p2 p3 = some q) : gx_C D t (gx_E0 aa) l yX4_add cX4_add 5 (some .int) 0 0 [.ref (ad 0), .int p1, .int p2, .int p3] (dC ad t σ ++ rs) (dC ad t q.2 ++ rs) (some (.int q.1)) := by
  refine gx_intro_i (by decide) (Nat.le_of_ble_eq_true rfl) (fun J g hE0 => ?_)
  have hE : ∀ (v : Int32) (σ : OS) (pc : Nat) (L : List (Nat × Value)), some (v, σ) = some q → decode cX4_add pc = .ok (.ireturn, 1) → narrow .int (.int v) = .int v → J 0 0 (dC ad t σ ++ rs) pc L [.int v] := fun v σ pc L h h1 h2 => by cases h; exact hE0 pc L h1 h2
  unfold fX4_add at hf
  show J 0 0 (dC ad t σ ++ rs) 0 [(0, .ref (ad 0)), (1, .int p1), (2, .int p2), (3, .int p3)] []
  refine j_aload_n (pc := 0) g 0 dX4_add_0 rfl ?_
  refine gD_X4_0_3 (σ := σ) (pc := 1) g dX4_add_1 ?_
  refine j_istore (L' := [(4, .int (os_f σ 3)), (0, .ref (ad 0)), (1, .int p1), (2, .int p2), (3, .int p3)]) (pc := 4) g dX4_add_4 (Nat.le_of_ble_eq_true rfl) rfl ?_
  refine j_aload_n (pc := 6) g 1 dX4_add_6 rfl ?_
  refine gD_X4_0_0 (σ := σ) (pc := 7) g dX4_add_7 ?_
  refine j_iload (pc := 10) g 0 dX4_add_10 rfl ?_
  refine j_iload_n (pc := 12) g 2 dX4_add_12 rfl ?_
  obtain ⟨h_13, hf⟩ := gx_ck hf
  refine sD_X4_0_0 (σ := σ) (pc := 13) g h_13 dX4_add_13 ?_
  refine j_aload_n (pc := 14) g 1 dX4_add_14 rfl ?_
  refine gD_X4_0_1 (σ := os_sa σ 0 (os_f σ 3).toNatClampNeg p1) (pc := 15) g dX4_add_15 ?_
  refine j_iload (pc := 18) g 0 dX4_add_18 rfl ?_
  refine j_iload_n (pc := 20) g 3 dX4_add_20 rfl ?_
  obtain ⟨h_21, hf⟩ := gx_ck hf
  refine sD_X4_0_1 (σ := os_sa σ 0 (os_f σ 3).toNatClampNeg p1) (pc := 21) g h_21 dX4_add_21 ?_
  refine j_aload_n (pc := 22) g 1 dX4_add_22 rfl ?_
  refine gD_X4_0_2 (σ := os_sa (os_sa σ 0 (os_f σ 3).toNatClampNeg p1) 1 (os_f σ 3).toNatClampNeg p2) (pc := 23) g dX4_add_23 ?_
  refine j_iload (pc := 26) g 0 dX4_add_26 rfl ?_
  refine j_iload_n (pc := 28) g 4 dX4_add_28 rfl ?_
  obtain ⟨h_29, hf⟩ := gx_ck hf
  refine sD_X4_0_2 (σ := os_sa (os_sa σ 0 (os_f σ 3).toNatClampNeg p1) 1 (os_f σ 3).toNatClampNeg p2) (pc := 29) g h_29 dX4_add_29 ?_
  refine j_aload_n (pc := 30) g 1 dX4_add_30 rfl ?_
  refine j_dup (pc := 31) g dX4_add_31 rfl ?_
  refine gD_X4_0_3 (σ := os_sa (os_sa (os_sa σ 0 (os_f σ 3).toNatClampNeg p1) 1 (os_f σ 3).toNatClampNeg p2) 2 (os_f σ 3).toNatClampNeg p3) (pc := 32) g dX4_add_32 ?_
  refine j_iconst (v := 1) (pc := 35) g dX4_add_35 (by decide) ?_
  refine j_iadd (pc := 36) g dX4_add_36 ?_
  refine pD_X4_0_3 (σ := os_sa (os_sa (os_sa σ 0 (os_f σ 3).toNatClampNeg p1) 1 (os_f σ 3).toNatClampNeg p2) 2 (os_f σ 3).toNatClampNeg p3) (pc := 37) g dX4_add_37 ?_
  refine j_iload (pc := 40) g 0 dX4_add_40 rfl ?_
  exact hE _ _ _ _ hf dX4_add_42 rfl
theorem gD_X4_0_4 {D : va_G} {t : Nat → ClassId} {aa : gx_AA} {l : Launch} {R : Room} {cc : ByteArray} {nL : Nat} {J : gx_J} {ad : Nat → Nat} {rs : va_W} {k n pc : Nat} {L : List (Nat × Value)} {st : List Value} (g : gx_G D t (gx_E0 aa) l R cc RX4 nL J) {σ : OS} (hd : decode cc pc = .ok (.getfield 31, 3)) (kk : J k n (dC ad t σ ++ rs) (pc + 3) L (.int (os_f σ 4) :: st)) : J k n (dC ad t σ ++ rs) pc L (.ref (ad 0) :: st) := j_get g in_X4 0 rfl rfl 4 (by decide) q_f_X4_31 rfl rfl hd kk
theorem pD_X4_0_4 {D : va_G} {t : Nat → ClassId} {aa : gx_AA} {l : Launch} {R : Room} {cc : ByteArray} {nL : Nat} {J : gx_J} {ad : Nat → Nat} {rs : va_W} {k n pc : Nat} {L : List (Nat × Value)} {st : List Value} (g : gx_G D t (gx_E0 aa) l R cc RX4 nL J) {σ : OS} {v : Int32} (hd : decode cc pc = .ok (.putfield 31, 3)) (kk : J k n (dC ad t (os_sf σ 4 v) ++ rs) (pc + 3) L st) : J k n (dC ad t σ ++ rs) pc L (.int v :: .ref (ad 0) :: st) := j_put (w' := dC ad t (os_sf σ 4 v) ++ rs) g in_X4 0 rfl rfl 4 (by decide) q_f_X4_31 rfl tyX4 tyX4_ok nmX4 rfl (ty := .int) (by decide +kernel) rfl rfl (Nat.le_of_ble_eq_true rfl) rfl hd kk
theorem lD_X4_0_0 {D : va_G} {t : Nat → ClassId} {aa : gx_AA} {l : Launch} {R : Room} {cc : ByteArray} {nL : Nat} {J : gx_J} {ad : Nat → Nat} {rs : va_W} {k n pc : Nat} {L : List (Nat × Value)} {st : List Value} (g : gx_G D t (gx_E0 aa) l R cc RX4 nL J) {σ : OS} {i : Int32} (hin : gx_in i 6) (hd : decode cc pc = .ok (.iaload, 1)) (kk : J k n (dC ad t σ ++ rs) (pc + 1) L (.int (os_a σ 0 i.toNatClampNeg) :: st)) : J k n (dC ad t σ ++ rs) pc L (.int i :: .ref (ad 1) :: st) := j_iald g 1 rfl hin hd kk
theorem lD_X4_0_1 {D : va_G} {t : Nat → ClassId} {aa : gx_AA} {l : Launch} {R : Room} {cc : ByteArray} {nL : Nat} {J : gx_J} {ad : Nat → Nat} {rs : va_W} {k n pc : Nat} {L : List (Nat × Value)} {st : List Value} (g : gx_G D t (gx_E0 aa) l R cc RX4 nL J) {σ : OS} {i : Int32} (hin : gx_in i 6) (hd : decode cc pc = .ok (.iaload, 1)) (kk : J k n (dC ad t σ ++ rs) (pc + 1) L (.int (os_a σ 1 i.toNatClampNeg) :: st)) : J k n (dC ad t σ ++ rs) pc L (.int i :: .ref (ad 2) :: st) := j_iald g 2 rfl hin hd kk
theorem lD_X4_0_2 {D : va_G} {t : Nat → ClassId} {aa : gx_AA} {l : Launch} {R : Room} {cc : ByteArray} {nL : Nat} {J : gx_J} {ad : Nat → Nat} {rs : va_W} {k n pc : Nat} {L : List (Nat × Value)} {st : List Value} (g : gx_G D t (gx_E0 aa) l R cc RX4 nL J) {σ : OS} {i : Int32} (hin : gx_in i 6) (hd : decode cc pc = .ok (.iaload, 1)) (kk : J k n (dC ad t σ ++ rs) (pc + 1) L (.int (os_a σ 2 i.toNatClampNeg) :: st)) : J k n (dC ad t σ ++ rs) pc L (.int i :: .ref (ad 3) :: st) := j_iald g 3 rfl hin hd kk
set_option maxRecDepth 100000 in
set_option maxHeartbeats 4000000 in
theorem tX4_remove_4 {D : va_G} {t : Nat → ClassId} {aa : gx_AA} {l : Launch} {J : gx_J} {ad : Nat → Nat} {rs : va_W} {q : OS} (g : gx_G D t (gx_E0 aa) l ({ frames := 0, cells := 0, slots := 0, locals := 0 }) cX4_remove RX4 3 J) (hE : ∀ (σ : OS) (pc : Nat) (L : List (Nat × Value)), some σ = some q → decode cX4_remove pc = .ok (.return_, 1) → J 0 0 (dC ad t σ ++ rs) pc L [])  : ∀ (n : Nat) (σ : OS) (v1 : Int32) (v2 : Int32), fX4_remove_4 n σ v1 v2 = some q → J 0 0 (dC ad t σ ++ rs) 4 [(0, .ref (ad 0)), (1, .int v1), (2, .int v2)] [] := by
  intro n
  induction n with
  | zero => intro σ v1 v2 hf; cases hf
  | succ n ih =>
    intro σ v1 v2 hf
    replace hf := (fX4_remove_4_s n σ v1 v2).symm.trans hf
    refine j_iload_n (pc := 4) g 2 dX4_remove_4 rfl ?_
    refine j_aload_n (pc := 5) g 0 dX4_remove_5 rfl ?_
    refine gD_X4_0_3 (σ := σ) (pc := 6) g dX4_remove_6 ?_
    refine j_icmp_ge (tgt := 60) (pc := 9) g dX4_remove_9 (by decide) (fun c_9 => ?_) (fun c_9 => ?_)
    · have hf := gx_it c_9 hf
      refine j_aload_n (pc := 60) g 0 dX4_remove_60 rfl ?_
      refine j_dup (pc := 61) g dX4_remove_61 rfl ?_
      refine gD_X4_0_3 (σ := σ) (pc := 62) g dX4_remove_62 ?_
      refine j_iconst (v := 1) (pc := 65) g dX4_remove_65 (by decide) ?_
      refine j_isub (pc := 66) g dX4_remove_66 ?_
      refine pD_X4_0_3 (σ := σ) (pc := 67) g dX4_remove_67 ?_
      refine j_iload_n (pc := 70) g 1 dX4_remove_70 rfl ?_
      refine j_aload_n (pc := 71) g 0 dX4_remove_71 rfl ?_
      refine gD_X4_0_4 (σ := os_sf σ 3 ((os_f σ 3) - (1 : Int32))) (pc := 72) g dX4_remove_72 ?_
      refine j_icmp_ge (tgt := 88) (pc := 75) g dX4_remove_75 (by decide) (fun c_75 => ?_) (fun c_75 => ?_)
      · have hf := gx_it c_75 hf
        exact hE _ _ _ hf dX4_remove_88
      · have hf := gx_if c_75 hf
        refine j_aload_n (pc := 78) g 0 dX4_remove_78 rfl ?_
        refine j_dup (pc := 79) g dX4_remove_79 rfl ?_
        refine gD_X4_0_4 (σ := os_sf σ 3 ((os_f σ 3) - (1 : Int32))) (pc := 80) g dX4_remove_80 ?_
        refine j_iconst (v := 1) (pc := 83) g dX4_remove_83 (by decide) ?_
        refine j_isub (pc := 84) g dX4_remove_84 ?_
        refine pD_X4_0_4 (σ := os_sf σ 3 ((os_f σ 3) - (1 : Int32))) (pc := 85) g dX4_remove_85 ?_
        exact hE _ _ _ hf dX4_remove_88
    · have hf := gx_if c_9 hf
      refine j_aload_n (pc := 12) g 0 dX4_remove_12 rfl ?_
      refine gD_X4_0_0 (σ := σ) (pc := 13) g dX4_remove_13 ?_
      refine j_iload_n (pc := 16) g 2 dX4_remove_16 rfl ?_
      refine j_iconst (v := 1) (pc := 17) g dX4_remove_17 (by decide) ?_
      refine j_isub (pc := 18) g dX4_remove_18 ?_
      refine j_aload_n (pc := 19) g 0 dX4_remove_19 rfl ?_
      refine gD_X4_0_0 (σ := σ) (pc := 20) g dX4_remove_20 ?_
      refine j_iload_n (pc := 23) g 2 dX4_remove_23 rfl ?_
      obtain ⟨h_24, hf⟩ := gx_ck hf
      refine lD_X4_0_0 (σ := σ) (pc := 24) g h_24 dX4_remove_24 ?_
      obtain ⟨h_25, hf⟩ := gx_ck hf
      refine sD_X4_0_0 (σ := σ) (pc := 25) g h_25 dX4_remove_25 ?_
      refine j_aload_n (pc := 26) g 0 dX4_remove_26 rfl ?_
      refine gD_X4_0_1 (σ := os_sa σ 0 (v2 - (1 : Int32)).toNatClampNeg (os_a σ 0 v2.toNatClampNeg)) (pc := 27) g dX4_remove_27 ?_
      refine j_iload_n (pc := 30) g 2 dX4_remove_30 rfl ?_
      refine j_iconst (v := 1) (pc := 31) g dX4_remove_31 (by decide) ?_
      refine j_isub (pc := 32) g dX4_remove_32 ?_
      refine j_aload_n (pc := 33) g 0 dX4_remove_33 rfl ?_
      refine gD_X4_0_1 (σ := os_sa σ 0 (v2 - (1 : Int32)).toNatClampNeg (os_a σ 0 v2.toNatClampNeg)) (pc := 34) g dX4_remove_34 ?_
      refine j_iload_n (pc := 37) g 2 dX4_remove_37 rfl ?_
      obtain ⟨h_38, hf⟩ := gx_ck hf
      refine lD_X4_0_1 (σ := os_sa σ 0 (v2 - (1 : Int32)).toNatClampNeg (os_a σ 0 v2.toNatClampNeg)) (pc := 38) g h_38 dX4_remove_38 ?_
      obtain ⟨h_39, hf⟩ := gx_ck hf
      refine sD_X4_0_1 (σ := os_sa σ 0 (v2 - (1 : Int32)).toNatClampNeg (os_a σ 0 v2.toNatClampNeg)) (pc := 39) g h_39 dX4_remove_39 ?_
      refine j_aload_n (pc := 40) g 0 dX4_remove_40 rfl ?_
      refine gD_X4_0_2 (σ := os_sa (os_sa σ 0 (v2 - (1 : Int32)).toNatClampNeg (os_a σ 0 v2.toNatClampNeg)) 1 (v2 - (1 : Int32)).toNatClampNeg (os_a (os_sa σ 0 (v2 - (1 : Int32)).toNatClampNeg (os_a σ 0 v2.toNatClampNeg)) 1 v2.toNatClampNeg)) (pc := 41) g dX4_remove_41 ?_
      refine j_iload_n (pc := 44) g 2 dX4_remove_44 rfl ?_
      refine j_iconst (v := 1) (pc := 45) g dX4_remove_45 (by decide) ?_
      refine j_isub (pc := 46) g dX4_remove_46 ?_
      refine j_aload_n (pc := 47) g 0 dX4_remove_47 rfl ?_
      refine gD_X4_0_2 (σ := os_sa (os_sa σ 0 (v2 - (1 : Int32)).toNatClampNeg (os_a σ 0 v2.toNatClampNeg)) 1 (v2 - (1 : Int32)).toNatClampNeg (os_a (os_sa σ 0 (v2 - (1 : Int32)).toNatClampNeg (os_a σ 0 v2.toNatClampNeg)) 1 v2.toNatClampNeg)) (pc := 48) g dX4_remove_48 ?_
      refine j_iload_n (pc := 51) g 2 dX4_remove_51 rfl ?_
      obtain ⟨h_52, hf⟩ := gx_ck hf
      refine lD_X4_0_2 (σ := os_sa (os_sa σ 0 (v2 - (1 : Int32)).toNatClampNeg (os_a σ 0 v2.toNatClampNeg)) 1 (v2 - (1 : Int32)).toNatClampNeg (os_a (os_sa σ 0 (v2 - (1 : Int32)).toNatClampNeg (os_a σ 0 v2.toNatClampNeg)) 1 v2.toNatClampNeg)) (pc := 52) g h_52 dX4_remove_52 ?_
      obtain ⟨h_53, hf⟩ := gx_ck hf
      refine sD_X4_0_2 (σ := os_sa (os_sa σ 0 (v2 - (1 : Int32)).toNatClampNeg (os_a σ 0 v2.toNatClampNeg)) 1 (v2 - (1 : Int32)).toNatClampNeg (os_a (os_sa σ 0 (v2 - (1 : Int32)).toNatClampNeg (os_a σ 0 v2.toNatClampNeg)) 1 v2.toNatClampNeg)) (pc := 53) g h_53 dX4_remove_53 ?_
      refine j_iinc (v := v2 + 1) (L' := [(2, .int (v2 + 1)), (0, .ref (ad 0)), (1, .int v1)]) (pc := 54) g 2 dX4_remove_54 rfl rfl (Nat.le_of_ble_eq_true rfl) rfl ?_
      refine j_goto (tgt := 4) (pc := 57) g dX4_remove_57 (by decide) ?_
      refine j_sub (pc := 4) g [1, 2, 0] rfl ?_
      exact ih (os_sa (os_sa (os_sa σ 0 (v2 - (1 : Int32)).toNatClampNeg (os_a σ 0 v2.toNatClampNeg)) 1 (v2 - (1 : Int32)).toNatClampNeg (os_a (os_sa σ 0 (v2 - (1 : Int32)).toNatClampNeg (os_a σ 0 v2.toNatClampNeg)) 1 v2.toNatClampNeg)) 2 (v2 - (1 : Int32)).toNatClampNeg (os_a (os_sa (os_sa σ 0 (v2 - (1 : Int32)).toNatClampNeg (os_a σ 0 v2.toNatClampNeg)) 1 (v2 - (1 : Int32)).toNatClampNeg (os_a (os_sa σ 0 (v2 - (1 : Int32)).toNatClampNeg (os_a σ 0 v2.toNatClampNeg)) 1 v2.toNatClampNeg)) 2 v2.toNatClampNeg)) v1 (v2 + 1) hf
set_option maxRecDepth 100000 in
set_option maxHeartbeats 4000000 in
theorem cX4_remove_ {D : va_G} {t : Nat → ClassId} {aa : gx_AA} {l : Launch} {ad : Nat → Nat} {rs : va_W} {σ : OS} {p1 : Int32} {q : OS} (hf : fX4_remove σ p1 = some q) : gx_C D t (gx_E0 aa) l yX4_remove cX4_remove 3 none 0 0 [.ref (ad 0), .int p1] (dC ad t σ ++ rs) (dC ad t q ++ rs) none := by
  refine gx_intro_v (by decide) (Nat.le_of_ble_eq_true rfl) (fun J g hE0 => ?_)
  have hE : ∀ (σ : OS) (pc : Nat) (L : List (Nat × Value)), some σ = some q → decode cX4_remove pc = .ok (.return_, 1) → J 0 0 (dC ad t σ ++ rs) pc L [] := fun σ pc L h h1 => by cases h; exact hE0 pc L h1
  unfold fX4_remove at hf
  show J 0 0 (dC ad t σ ++ rs) 0 [(0, .ref (ad 0)), (1, .int p1)] []
  refine j_iload_n (pc := 0) g 1 dX4_remove_0 rfl ?_
  refine j_iconst (v := 1) (pc := 1) g dX4_remove_1 (by decide) ?_
  refine j_iadd (pc := 2) g dX4_remove_2 ?_
  refine j_istore_n (L' := [(2, .int (p1 + (1 : Int32))), (0, .ref (ad 0)), (1, .int p1)]) (pc := 3) g dX4_remove_3 rfl (Nat.le_of_ble_eq_true rfl) rfl ?_
  refine j_sub (pc := 4) g [1, 2, 0] rfl ?_
  exact tX4_remove_4 g hE 2000 σ p1 (p1 + (1 : Int32)) hf
theorem gX_X6_0_1 {D : va_G} {t : Nat → ClassId} {aa : gx_AA} {l : Launch} {R : Room} {cc : ByteArray} {nL : Nat} {J : gx_J} {ad : Nat → Nat} {rs : va_W} {k n pc : Nat} {L : List (Nat × Value)} {st : List Value} (g : gx_G D t (gx_E0 aa) l R cc RX6 nL J) {σ : OS} (hd : decode cc pc = .ok (.getfield 15, 3)) (kk : J k n (xC ad t σ ++ rs) (pc + 3) L (.int (os_f σ 1) :: st)) : J k n (xC ad t σ ++ rs) pc L (.ref (ad 0) :: st) := j_get g in_X6 0 rfl rfl 1 (by decide) q_f_X6_15 rfl rfl hd kk
theorem gX_X6_0_0 {D : va_G} {t : Nat → ClassId} {aa : gx_AA} {l : Launch} {R : Room} {cc : ByteArray} {nL : Nat} {J : gx_J} {ad : Nat → Nat} {rs : va_W} {k n pc : Nat} {L : List (Nat × Value)} {st : List Value} (g : gx_G D t (gx_E0 aa) l R cc RX6 nL J) {σ : OS} (hd : decode cc pc = .ok (.getfield 9, 3)) (kk : J k n (xC ad t σ ++ rs) (pc + 3) L (.ref (ad 1) :: st)) : J k n (xC ad t σ ++ rs) pc L (.ref (ad 0) :: st) := j_get g in_X6 0 rfl rfl 0 (by decide) q_f_X6_9 rfl rfl hd kk
theorem sX_X6_0_0 {D : va_G} {t : Nat → ClassId} {aa : gx_AA} {l : Launch} {R : Room} {cc : ByteArray} {nL : Nat} {J : gx_J} {ad : Nat → Nat} {rs : va_W} {k n pc : Nat} {L : List (Nat × Value)} {st : List Value} (g : gx_G D t (gx_E0 aa) l R cc RX6 nL J) {σ : OS} {i x : Int32} (hin : gx_in i 60) (hd : decode cc pc = .ok (.castore, 1)) (kk : J k n (xC ad t (os_sa σ 0 i.toNatClampNeg (vp_nar .char x)) ++ rs) (pc + 1) L st) : J k n (xC ad t σ ++ rs) pc L (.int x :: .int i :: .ref (ad 1) :: st) := j_cast (w' := xC ad t (os_sa σ 0 i.toNatClampNeg (vp_nar .char x)) ++ rs) g 1 rfl hin rfl hd kk
theorem pX_X6_0_1 {D : va_G} {t : Nat → ClassId} {aa : gx_AA} {l : Launch} {R : Room} {cc : ByteArray} {nL : Nat} {J : gx_J} {ad : Nat → Nat} {rs : va_W} {k n pc : Nat} {L : List (Nat × Value)} {st : List Value} (g : gx_G D t (gx_E0 aa) l R cc RX6 nL J) {σ : OS} {v : Int32} (hd : decode cc pc = .ok (.putfield 15, 3)) (kk : J k n (xC ad t (os_sf σ 1 v) ++ rs) (pc + 3) L st) : J k n (xC ad t σ ++ rs) pc L (.int v :: .ref (ad 0) :: st) := j_put (w' := xC ad t (os_sf σ 1 v) ++ rs) g in_X6 0 rfl rfl 1 (by decide) q_f_X6_15 rfl tyX6 tyX6_ok nmX6 rfl (ty := .int) (by decide +kernel) rfl rfl (Nat.le_of_ble_eq_true rfl) rfl hd kk
set_option maxRecDepth 100000 in
set_option maxHeartbeats 4000000 in
theorem cX6_add_ {D : va_G} {t : Nat → ClassId} {aa : gx_AA} {l : Launch} {ad : Nat → Nat} {rs : va_W} {σ : OS} {p1 : Int32} {q : (Int32 × OS)} (hf : fX6_add σ p1 = some q) : gx_C D t (gx_E0 aa) l yX6_add cX6_add 2 (some .boolean) 0 0 [.ref (ad 0), .int p1] (xC ad t σ ++ rs) (xC ad t q.2 ++ rs) (some (.int q.1)) := by
  refine gx_intro_i (by decide) (Nat.le_of_ble_eq_true rfl) (fun J g hE0 => ?_)
  have hE : ∀ (v : Int32) (σ : OS) (pc : Nat) (L : List (Nat × Value)), some (v, σ) = some q → decode cX6_add pc = .ok (.ireturn, 1) → narrow .boolean (.int v) = .int v → J 0 0 (xC ad t σ ++ rs) pc L [.int v] := fun v σ pc L h h1 h2 => by cases h; exact hE0 pc L h1 h2
  unfold fX6_add at hf
  show J 0 0 (xC ad t σ ++ rs) 0 [(0, .ref (ad 0)), (1, .int p1)] []
  refine j_aload_n (pc := 0) g 0 dX6_add_0 rfl ?_
  refine gX_X6_0_1 (σ := σ) (pc := 1) g dX6_add_1 ?_
  refine j_bipush (v := 60) (pc := 4) g dX6_add_4 (by decide) ?_
  refine j_icmp_lt (tgt := 11) (pc := 6) g dX6_add_6 (by decide) (fun c_6 => ?_) (fun c_6 => ?_)
  · have hf := gx_it c_6 hf
    refine j_aload_n (pc := 11) g 0 dX6_add_11 rfl ?_
    refine gX_X6_0_0 (σ := σ) (pc := 12) g dX6_add_12 ?_
    refine j_aload_n (pc := 15) g 0 dX6_add_15 rfl ?_
    refine gX_X6_0_1 (σ := σ) (pc := 16) g dX6_add_16 ?_
    refine j_iload_n (pc := 19) g 1 dX6_add_19 rfl ?_
    obtain ⟨h_20, hf⟩ := gx_ck hf
    refine sX_X6_0_0 (σ := σ) (pc := 20) g h_20 dX6_add_20 ?_
    refine j_aload_n (pc := 21) g 0 dX6_add_21 rfl ?_
    refine j_dup (pc := 22) g dX6_add_22 rfl ?_
    refine gX_X6_0_1 (σ := os_sa σ 0 (os_f σ 1).toNatClampNeg (vp_nar .char p1)) (pc := 23) g dX6_add_23 ?_
    refine j_iconst (v := 1) (pc := 26) g dX6_add_26 (by decide) ?_
    refine j_iadd (pc := 27) g dX6_add_27 ?_
    refine pX_X6_0_1 (σ := os_sa σ 0 (os_f σ 1).toNatClampNeg (vp_nar .char p1)) (pc := 28) g dX6_add_28 ?_
    refine j_iconst (v := 1) (pc := 31) g dX6_add_31 (by decide) ?_
    exact hE _ _ _ _ hf dX6_add_32 rfl
  · have hf := gx_if c_6 hf
    refine j_iconst (v := 0) (pc := 9) g dX6_add_9 (by decide) ?_
    exact hE _ _ _ _ hf dX6_add_10 rfl
theorem cX_X6_X6_add_0 {D : va_G} {t : Nat → ClassId} {aa : gx_AA} {l : Launch} {R : Room} {cc : ByteArray} {nL : Nat} {J : gx_J} {ad : Nat → Nat} {rs : va_W} {k n pc : Nat} {L : List (Nat × Value)} {rest : List Value} (g : gx_G D t (gx_E0 aa) l R cc RX6 nL J) {σ : OS} {x0 : Int32} {q : (Int32 × OS)} {fr lo : Nat} (hC : gx_C D t (gx_E0 aa) l yX6_add cX6_add 2 (some .boolean) fr lo [.ref (ad 0), .int x0] (xC ad t σ ++ rs) (xC ad t q.2 ++ rs) (some (.int q.1))) (hR : fr + 1 ≤ R.frames ∧ 8 + (2 + 11) + lo ≤ R.locals) (hkn : k ≤ R.cells ∧ n ≤ R.slots) (hcat : (rest.map fun v => v.category).sum ≤ 8) (hd : decode cc pc = .ok (.invokevirtual 19, 3)) (kk : J k n (xC ad t q.2 ++ rs) (pc + 3) L (.int q.1 :: rest)) : J k n (xC ad t σ ++ rs) pc L (.int x0 :: .ref (ad 0) :: rest) := j_callVi (na := 1) (As := [.int x0]) (q0 := 0) (ci := 8) g hC q_i_X6_add q_s_X6_add rfl rfl rfl q_c_X6_add q_l_X6_19 q_n_X6 (by decide +kernel) rfl hR hkn hcat (.refl _) (.refl _) hd kk rfl
set_option maxRecDepth 100000 in
set_option maxHeartbeats 4000000 in
theorem tX6_addNumber_19 {D : va_G} {t : Nat → ClassId} {aa : gx_AA} {l : Launch} {J : gx_J} {ad : Nat → Nat} {rs : va_W} {q : OS} (g : gx_G D t (gx_E0 aa) l ({ frames := 1, cells := 0, slots := 0, locals := 21 }) cX6_addNumber RX6 2 J) (hE : ∀ (σ : OS) (pc : Nat) (L : List (Nat × Value)), some σ = some q → decode cX6_addNumber pc = .ok (.return_, 1) → J 0 0 (xC ad t σ ++ rs) pc L [])  : ∀ (σ : OS) (v1 : Int32), fX6_addNumber_19 σ v1 = some q → J 0 0 (xC ad t σ ++ rs) 19 [(0, .ref (ad 0)), (1, .int v1)] [] := by
  intro σ v1 hf
  unfold fX6_addNumber_19 at hf
  refine j_aload_n (pc := 19) g 0 dX6_addNumber_19 rfl ?_
  refine j_bipush (v := 48) (pc := 20) g dX6_addNumber_20 (by decide) ?_
  refine j_iload_n (pc := 22) g 1 dX6_addNumber_22 rfl ?_
  refine j_bipush (v := 10) (pc := 23) g dX6_addNumber_23 (by decide) ?_
  refine j_irem (pc := 25) g dX6_addNumber_25 (by decide) ?_
  refine j_iadd (pc := 26) g dX6_addNumber_26 ?_
  refine j_i2c (pc := 27) g dX6_addNumber_27 ?_
  obtain ⟨r28, h_28, hf⟩ := gx_bs hf
  refine cX_X6_X6_add_0 (σ := σ) (pc := 28) g (cX6_add_ h_28) ⟨Nat.le_of_ble_eq_true rfl, Nat.le_of_ble_eq_true rfl⟩ ⟨Nat.zero_le _, Nat.zero_le _⟩ (Nat.le_of_ble_eq_true rfl) dX6_addNumber_28 ?_
  refine j_pop (pc := 31) g dX6_addNumber_31 rfl ?_
  exact hE _ _ _ hf dX6_addNumber_32
set_option maxRecDepth 100000 in
set_option maxHeartbeats 4000000 in
theorem cX6_addNumber_ {D : va_G} {t : Nat → ClassId} {aa : gx_AA} {l : Launch} {ad : Nat → Nat} {rs : va_W} {σ : OS} {p1 : Int32} {q : OS} (hf : fX6_addNumber σ p1 = some q) : gx_C D t (gx_E0 aa) l yX6_addNumber cX6_addNumber 2 none 1 21 [.ref (ad 0), .int p1] (xC ad t σ ++ rs) (xC ad t q ++ rs) none := by
  refine gx_intro_v (by decide) (Nat.le_of_ble_eq_true rfl) (fun J g hE0 => ?_)
  have hE : ∀ (σ : OS) (pc : Nat) (L : List (Nat × Value)), some σ = some q → decode cX6_addNumber pc = .ok (.return_, 1) → J 0 0 (xC ad t σ ++ rs) pc L [] := fun σ pc L h h1 => by cases h; exact hE0 pc L h1
  unfold fX6_addNumber at hf
  show J 0 0 (xC ad t σ ++ rs) 0 [(0, .ref (ad 0)), (1, .int p1)] []
  refine j_iload_n (pc := 0) g 1 dX6_addNumber_0 rfl ?_
  refine j_bipush (v := 10) (pc := 1) g dX6_addNumber_1 (by decide) ?_
  refine j_icmp_lt (tgt := 19) (pc := 3) g dX6_addNumber_3 (by decide) (fun c_3 => ?_) (fun c_3 => ?_)
  · have hf := gx_it c_3 hf
    refine j_sub (pc := 19) g [0, 1] rfl ?_
    exact tX6_addNumber_19 g hE σ p1 hf
  · have hf := gx_if c_3 hf
    refine j_aload_n (pc := 6) g 0 dX6_addNumber_6 rfl ?_
    refine j_bipush (v := 48) (pc := 7) g dX6_addNumber_7 (by decide) ?_
    refine j_iload_n (pc := 9) g 1 dX6_addNumber_9 rfl ?_
    refine j_bipush (v := 10) (pc := 10) g dX6_addNumber_10 (by decide) ?_
    refine j_idiv (pc := 12) g dX6_addNumber_12 (by decide) ?_
    refine j_iadd (pc := 13) g dX6_addNumber_13 ?_
    refine j_i2c (pc := 14) g dX6_addNumber_14 ?_
    obtain ⟨r15, h_15, hf⟩ := gx_bs hf
    refine cX_X6_X6_add_0 (σ := σ) (pc := 15) g (cX6_add_ h_15) ⟨Nat.le_of_ble_eq_true rfl, Nat.le_of_ble_eq_true rfl⟩ ⟨Nat.zero_le _, Nat.zero_le _⟩ (Nat.le_of_ble_eq_true rfl) dX6_addNumber_15 ?_
    refine j_pop (pc := 18) g dX6_addNumber_18 rfl ?_
    refine j_sub (pc := 19) g [0, 1] rfl ?_
    exact tX6_addNumber_19 g hE r15.2 p1 hf

set_option maxRecDepth 100000 in
set_option maxHeartbeats 4000000 in
theorem cX6_clear_ {D : va_G} {t : Nat → ClassId} {aa : gx_AA} {l : Launch} {ad : Nat → Nat} {rs : va_W} {σ : OS} {q : OS} (hf : fX6_clear σ = some q) : gx_C D t (gx_E0 aa) l yX6_clear cX6_clear 1 none 0 0 [.ref (ad 0)] (xC ad t σ ++ rs) (xC ad t q ++ rs) none := by
  refine gx_intro_v (by decide) (Nat.le_of_ble_eq_true rfl) (fun J g hE0 => ?_)
  have hE : ∀ (σ : OS) (pc : Nat) (L : List (Nat × Value)), some σ = some q → decode cX6_clear pc = .ok (.return_, 1) → J 0 0 (xC ad t σ ++ rs) pc L [] := fun σ pc L h h1 => by cases h; exact hE0 pc L h1
  unfold fX6_clear at hf
  show J 0 0 (xC ad t σ ++ rs) 0 [(0, .ref (ad 0))] []
  refine j_aload_n (pc := 0) g 0 dX6_clear_0 rfl ?_
  refine j_iconst (v := 0) (pc := 1) g dX6_clear_1 (by decide) ?_
  refine pX_X6_0_1 (σ := σ) (pc := 2) g dX6_clear_2 ?_
  exact hE _ _ _ hf dX6_clear_5
theorem cB_X0_X0_isLetter {D : va_G} {t : Nat → ClassId} {aa : gx_AA} {l : Launch} {R : Room} {cc : ByteArray} {nL : Nat} {J : gx_J} {k n pc : Nat} {L : List (Nat × Value)} {rest : List Value} (g : gx_G D t (gx_E0 aa) l R cc RX0 nL J) {w : va_W} {x0 : Int32} {q : Int32} {fr lo : Nat} (hC : gx_C D t (gx_E0 aa) l yX0_isLetter cX0_isLetter 1 (some .boolean) fr lo [.int x0] w w (some (.int q))) (hR : fr + 1 ≤ R.frames ∧ 8 + (1 + 11) + lo ≤ R.locals) (hkn : k ≤ R.cells ∧ n ≤ R.slots) (hcat : (rest.map fun v => v.category).sum ≤ 8) (hd : decode cc pc = .ok (.invokestatic 28, 3)) (kk : J k n w (pc + 3) L (.int q :: rest)) : J k n w pc L (.int x0 :: rest) := j_callSi (na := 1) (As := [.int x0]) g hC q_t_X0_isLetter q_c_X0_isLetter q_l_X0_28 q_n_X0 (by decide +kernel) rfl hR hkn hcat (.refl _) (.refl _) hd kk rfl
theorem cB_X0_X0_number {D : va_G} {t : Nat → ClassId} {aa : gx_AA} {l : Launch} {R : Room} {cc : ByteArray} {nL : Nat} {J : gx_J} {k n pc : Nat} {L : List (Nat × Value)} {rest : List Value} (g : gx_G D t (gx_E0 aa) l R cc RX0 nL J) {w : va_W} {x0 x1 : Int32} {q : Int32} {fr lo : Nat} (hC : gx_C D t (gx_E0 aa) l yX0_number cX0_number 2 (some .int) fr lo [.int x0, .int x1] w w (some (.int q))) (hR : fr + 1 ≤ R.frames ∧ 8 + (2 + 11) + lo ≤ R.locals) (hkn : k ≤ R.cells ∧ n ≤ R.slots) (hcat : (rest.map fun v => v.category).sum ≤ 8) (hd : decode cc pc = .ok (.invokestatic 36, 3)) (kk : J k n w (pc + 3) L (.int q :: rest)) : J k n w pc L (.int x1 :: .int x0 :: rest) := j_callSi (na := 2) (As := [.int x0, .int x1]) g hC q_t_X0_number q_c_X0_number q_l_X0_36 q_n_X0 (by decide +kernel) rfl hR hkn hcat (.refl _) (.refl _) hd kk rfl
set_option maxRecDepth 100000 in
set_option maxHeartbeats 4000000 in
theorem tX0_find_2 {D : va_G} {t : Nat → ClassId} {aa : gx_AA} {l : Launch} {J : gx_J} {ad : Nat → Nat} {rs : va_W} {σ : OS} {q : Int32} (g : gx_G D t (gx_E0 aa) l ({ frames := 1, cells := 0, slots := 0, locals := 21 }) cX0_find RX0 4 J) (hE : ∀ (v : Int32) (pc : Nat) (L : List (Nat × Value)), some v = some q → decode cX0_find pc = .ok (.ireturn, 1) → narrow .int (.int v) = .int v → J 0 0 (bC ad t σ ++ rs) pc L [.int v])  : ∀ (n : Nat) (v1 : Int32) (v2 : Int32) (v3 : Int32), fX0_find_2 σ n v1 v2 v3 = some q → J 0 0 (bC ad t σ ++ rs) 2 [(0, .ref (ad 0)), (1, .int v1), (2, .int v2), (3, .int v3)] [] := by
  intro n
  induction n with
  | zero => intro v1 v2 v3 hf; cases hf
  | succ n ih =>
    intro v1 v2 v3 hf
    replace hf := (fX0_find_2_s σ n v1 v2 v3).symm.trans hf
    refine j_iload_n (pc := 2) g 3 dX0_find_2 rfl ?_
    refine j_aload_n (pc := 3) g 0 dX0_find_3 rfl ?_
    refine gB_X0_0_2 (σ := σ) (pc := 4) g dX0_find_4 ?_
    refine j_icmp_ge (tgt := 32) (pc := 7) g dX0_find_7 (by decide) (fun c_7 => ?_) (fun c_7 => ?_)
    · have hf := gx_it c_7 hf
      refine j_iconst (v := -1) (pc := 32) g dX0_find_32 (by decide) ?_
      exact hE _ _ _ hf dX0_find_33 rfl
    · have hf := gx_if c_7 hf
      refine j_aload_n (pc := 10) g 0 dX0_find_10 rfl ?_
      refine gB_X0_0_0 (σ := σ) (pc := 11) g dX0_find_11 ?_
      refine j_iload_n (pc := 14) g 3 dX0_find_14 rfl ?_
      obtain ⟨h_15, hf⟩ := gx_ck hf
      refine lB_X0_0_0 (σ := σ) (pc := 15) g h_15 dX0_find_15 ?_
      refine j_iload_n (pc := 16) g 1 dX0_find_16 rfl ?_
      refine j_iload_n (pc := 17) g 2 dX0_find_17 rfl ?_
      obtain ⟨r18, h_18, hf⟩ := gx_bs hf
      refine cB_X0_X0_number (pc := 18) g (cX0_number_ (rs := _) (ad := fun i => i) h_18) ⟨Nat.le_of_ble_eq_true rfl, Nat.le_of_ble_eq_true rfl⟩ ⟨Nat.zero_le _, Nat.zero_le _⟩ (Nat.le_of_ble_eq_true rfl) dX0_find_18 ?_
      refine j_icmp_ne (tgt := 26) (pc := 21) g dX0_find_21 (by decide) (fun c_21 => ?_) (fun c_21 => ?_)
      · have hf := gx_if c_21 hf
        refine j_iinc (v := v3 + 1) (L' := [(3, .int (v3 + 1)), (0, .ref (ad 0)), (1, .int v1), (2, .int v2)]) (pc := 26) g 3 dX0_find_26 rfl rfl (Nat.le_of_ble_eq_true rfl) rfl ?_
        refine j_goto (tgt := 2) (pc := 29) g dX0_find_29 (by decide) ?_
        refine j_sub (pc := 2) g [1, 2, 3, 0] rfl ?_
        exact ih v1 v2 (v3 + 1) hf
      · have hf := gx_it c_21 hf
        refine j_iload_n (pc := 24) g 3 dX0_find_24 rfl ?_
        exact hE _ _ _ hf dX0_find_25 rfl
set_option maxRecDepth 100000 in
set_option maxHeartbeats 4000000 in
theorem cX0_find_ {D : va_G} {t : Nat → ClassId} {aa : gx_AA} {l : Launch} {ad : Nat → Nat} {rs : va_W} {σ : OS} {p1 : Int32} {p2 : Int32} {q : Int32} (hf : fX0_find σ p1 p2 = some q) : gx_C D t (gx_E0 aa) l yX0_find cX0_find 4 (some .int) 1 21 [.ref (ad 0), .int p1, .int p2] (bC ad t σ ++ rs) (bC ad t σ ++ rs) (some (.int q)) := by
  refine gx_intro_i (by decide) (Nat.le_of_ble_eq_true rfl) (fun J g hE0 => ?_)
  have hE : ∀ (v : Int32) (pc : Nat) (L : List (Nat × Value)), some v = some q → decode cX0_find pc = .ok (.ireturn, 1) → narrow .int (.int v) = .int v → J 0 0 (bC ad t σ ++ rs) pc L [.int v] := fun v pc L h h1 h2 => by cases h; exact hE0 pc L h1 h2
  unfold fX0_find at hf
  show J 0 0 (bC ad t σ ++ rs) 0 [(0, .ref (ad 0)), (1, .int p1), (2, .int p2)] []
  refine j_iconst (v := 0) (pc := 0) g dX0_find_0 (by decide) ?_
  refine j_istore_n (L' := [(3, .int (0 : Int32)), (0, .ref (ad 0)), (1, .int p1), (2, .int p2)]) (pc := 1) g dX0_find_1 rfl (Nat.le_of_ble_eq_true rfl) rfl ?_
  refine j_sub (pc := 2) g [1, 2, 3, 0] rfl ?_
  exact tX0_find_2 g hE 2000 p1 p2 (0 : Int32) hf
theorem cNN_X2_X3_copyFrom_1_5 {D : va_G} {t : Nat → ClassId} {aa : gx_AA} {l : Launch} {R : Room} {cc : ByteArray} {nL : Nat} {J : gx_J} {ad bd : Nat → Nat} {rs : va_W} {k n pc : Nat} {L : List (Nat × Value)} {rest : List Value} (g : gx_G D t (gx_E0 aa) l R cc RX2 nL J) {σ : (NS × NS)} {q : (OS × OS)} {fr lo : Nat} (hC : gx_C D t (gx_E0 aa) l yX3_copyFrom cX3_copyFrom 3 none fr lo [.ref (ad 1), .ref (bd 1)] (oC (fun p => ad (p + 1)) t σ.1.2.1 ++ (oC (fun p => bd (p + 1)) t σ.2.2.1 ++ ((((ad 0, .inr (4, [.ref (ad 1), .ref (ad 7), .ref (ad 11), .int (os_f σ.1.1 3), .int (os_f σ.1.1 4), .int (os_f σ.1.1 5), .int (os_f σ.1.1 6)])) :: (dC (fun p => ad (p + 7)) t σ.1.2.2.1 ++ bC (fun p => ad (p + 11)) t σ.1.2.2.2))) ++ ((((bd 0, .inr (4, [.ref (bd 1), .ref (bd 7), .ref (bd 11), .int (os_f σ.2.1 3), .int (os_f σ.2.1 4), .int (os_f σ.2.1 5), .int (os_f σ.2.1 6)])) :: (dC (fun p => bd (p + 7)) t σ.2.2.2.1 ++ bC (fun p => bd (p + 11)) t σ.2.2.2.2))) ++ rs)))) (oC (fun p => ad (p + 1)) t q.1 ++ (oC (fun p => bd (p + 1)) t q.2 ++ ((((ad 0, .inr (4, [.ref (ad 1), .ref (ad 7), .ref (ad 11), .int (os_f σ.1.1 3), .int (os_f σ.1.1 4), .int (os_f σ.1.1 5), .int (os_f σ.1.1 6)])) :: (dC (fun p => ad (p + 7)) t σ.1.2.2.1 ++ bC (fun p => ad (p + 11)) t σ.1.2.2.2))) ++ ((((bd 0, .inr (4, [.ref (bd 1), .ref (bd 7), .ref (bd 11), .int (os_f σ.2.1 3), .int (os_f σ.2.1 4), .int (os_f σ.2.1 5), .int (os_f σ.2.1 6)])) :: (dC (fun p => bd (p + 7)) t σ.2.2.2.1 ++ bC (fun p => bd (p + 11)) t σ.2.2.2.2))) ++ rs)))) none) (hR : fr + 1 ≤ R.frames ∧ 8 + (3 + 11) + lo ≤ R.locals) (hkn : k ≤ R.cells ∧ n ≤ R.slots) (hcat : (rest.map fun v => v.category).sum ≤ 8) (hd : decode cc pc = .ok (.invokevirtual 32, 3)) (kk : J k n (nC ad t (σ.1.1, q.1, σ.1.2.2) ++ (nC bd t (σ.2.1, q.2, σ.2.2.2) ++ rs)) (pc + 3) L (rest)) : J k n (nC ad t σ.1 ++ (nC bd t σ.2 ++ rs)) pc L (.ref (bd 1) :: .ref (ad 1) :: rest) := j_callVv (na := 1) (As := [.ref (bd 1)]) (q0 := 1) (ci := 5) g hC q_i_X3_copyFrom q_s_X3_copyFrom rfl rfl rfl q_c_X3_copyFrom q_l_X2_32 q_n_X3 (by decide +kernel) rfl hR hkn hcat (pm_p rs (fun r => pm_n1 ad t σ.1 r) (fun r => pm_n1 bd t σ.2 r)) ((pm_p rs (fun r => pm_n1 ad t (σ.1.1, q.1, σ.1.2.2) r) (fun r => pm_n1 bd t (σ.2.1, q.2, σ.2.2.2) r))).symm hd kk rfl
theorem gNN_X2_0_1 {D : va_G} {t : Nat → ClassId} {aa : gx_AA} {l : Launch} {R : Room} {cc : ByteArray} {nL : Nat} {J : gx_J} {ad bd : Nat → Nat} {rs : va_W} {k n pc : Nat} {L : List (Nat × Value)} {st : List Value} (g : gx_G D t (gx_E0 aa) l R cc RX2 nL J) {σ : (NS × NS)} (hd : decode cc pc = .ok (.getfield 21, 3)) (kk : J k n (nC ad t σ.1 ++ (nC bd t σ.2 ++ rs)) (pc + 3) L (.ref (ad 7) :: st)) : J k n (nC ad t σ.1 ++ (nC bd t σ.2 ++ rs)) pc L (.ref (ad 0) :: st) := j_get g in_X2 0 rfl rfl 1 (by decide) q_f_X2_21 rfl rfl hd kk
theorem gNN_X2_4_1 {D : va_G} {t : Nat → ClassId} {aa : gx_AA} {l : Launch} {R : Room} {cc : ByteArray} {nL : Nat} {J : gx_J} {ad bd : Nat → Nat} {rs : va_W} {k n pc : Nat} {L : List (Nat × Value)} {st : List Value} (g : gx_G D t (gx_E0 aa) l R cc RX2 nL J) {σ : (NS × NS)} (hd : decode cc pc = .ok (.getfield 21, 3)) (kk : J k n (nC ad t σ.1 ++ (nC bd t σ.2 ++ rs)) (pc + 3) L (.ref (bd 7) :: st)) : J k n (nC ad t σ.1 ++ (nC bd t σ.2 ++ rs)) pc L (.ref (bd 0) :: st) := j_get g in_X2 14 rfl rfl 1 (by decide) q_f_X2_21 rfl rfl hd kk
theorem cNN_X2_X4_copyFrom_2_6 {D : va_G} {t : Nat → ClassId} {aa : gx_AA} {l : Launch} {R : Room} {cc : ByteArray} {nL : Nat} {J : gx_J} {ad bd : Nat → Nat} {rs : va_W} {k n pc : Nat} {L : List (Nat × Value)} {rest : List Value} (g : gx_G D t (gx_E0 aa) l R cc RX2 nL J) {σ : (NS × NS)} {q : (OS × OS)} {fr lo : Nat} (hC : gx_C D t (gx_E0 aa) l yX4_copyFrom cX4_copyFrom 2 none fr lo [.ref (ad 7), .ref (bd 7)] (dC (fun p => ad (p + 7)) t σ.1.2.2.1 ++ (dC (fun p => bd (p + 7)) t σ.2.2.2.1 ++ ((((ad 0, .inr (4, [.ref (ad 1), .ref (ad 7), .ref (ad 11), .int (os_f σ.1.1 3), .int (os_f σ.1.1 4), .int (os_f σ.1.1 5), .int (os_f σ.1.1 6)])) :: (oC (fun p => ad (p + 1)) t σ.1.2.1 ++ bC (fun p => ad (p + 11)) t σ.1.2.2.2))) ++ ((((bd 0, .inr (4, [.ref (bd 1), .ref (bd 7), .ref (bd 11), .int (os_f σ.2.1 3), .int (os_f σ.2.1 4), .int (os_f σ.2.1 5), .int (os_f σ.2.1 6)])) :: (oC (fun p => bd (p + 1)) t σ.2.2.1 ++ bC (fun p => bd (p + 11)) t σ.2.2.2.2))) ++ rs)))) (dC (fun p => ad (p + 7)) t q.1 ++ (dC (fun p => bd (p + 7)) t q.2 ++ ((((ad 0, .inr (4, [.ref (ad 1), .ref (ad 7), .ref (ad 11), .int (os_f σ.1.1 3), .int (os_f σ.1.1 4), .int (os_f σ.1.1 5), .int (os_f σ.1.1 6)])) :: (oC (fun p => ad (p + 1)) t σ.1.2.1 ++ bC (fun p => ad (p + 11)) t σ.1.2.2.2))) ++ ((((bd 0, .inr (4, [.ref (bd 1), .ref (bd 7), .ref (bd 11), .int (os_f σ.2.1 3), .int (os_f σ.2.1 4), .int (os_f σ.2.1 5), .int (os_f σ.2.1 6)])) :: (oC (fun p => bd (p + 1)) t σ.2.2.1 ++ bC (fun p => bd (p + 11)) t σ.2.2.2.2))) ++ rs)))) none) (hR : fr + 1 ≤ R.frames ∧ 8 + (2 + 11) + lo ≤ R.locals) (hkn : k ≤ R.cells ∧ n ≤ R.slots) (hcat : (rest.map fun v => v.category).sum ≤ 8) (hd : decode cc pc = .ok (.invokevirtual 36, 3)) (kk : J k n (nC ad t (σ.1.1, σ.1.2.1, q.1, σ.1.2.2.2) ++ (nC bd t (σ.2.1, σ.2.2.1, q.2, σ.2.2.2.2) ++ rs)) (pc + 3) L (rest)) : J k n (nC ad t σ.1 ++ (nC bd t σ.2 ++ rs)) pc L (.ref (bd 7) :: .ref (ad 7) :: rest) := j_callVv (na := 1) (As := [.ref (bd 7)]) (q0 := 7) (ci := 6) g hC q_i_X4_copyFrom q_s_X4_copyFrom rfl rfl rfl q_c_X4_copyFrom q_l_X2_36 q_n_X4 (by decide +kernel) rfl hR hkn hcat (pm_p rs (fun r => pm_n2 ad t σ.1 r) (fun r => pm_n2 bd t σ.2 r)) ((pm_p rs (fun r => pm_n2 ad t (σ.1.1, σ.1.2.1, q.1, σ.1.2.2.2) r) (fun r => pm_n2 bd t (σ.2.1, σ.2.2.1, q.2, σ.2.2.2.2) r))).symm hd kk rfl
theorem gNN_X2_0_2 {D : va_G} {t : Nat → ClassId} {aa : gx_AA} {l : Launch} {R : Room} {cc : ByteArray} {nL : Nat} {J : gx_J} {ad bd : Nat → Nat} {rs : va_W} {k n pc : Nat} {L : List (Nat × Value)} {st : List Value} (g : gx_G D t (gx_E0 aa) l R cc RX2 nL J) {σ : (NS × NS)} (hd : decode cc pc = .ok (.getfield 28, 3)) (kk : J k n (nC ad t σ.1 ++ (nC bd t σ.2 ++ rs)) (pc + 3) L (.ref (ad 11) :: st)) : J k n (nC ad t σ.1 ++ (nC bd t σ.2 ++ rs)) pc L (.ref (ad 0) :: st) := j_get g in_X2 0 rfl rfl 2 (by decide) q_f_X2_28 rfl rfl hd kk
theorem gNN_X2_4_2 {D : va_G} {t : Nat → ClassId} {aa : gx_AA} {l : Launch} {R : Room} {cc : ByteArray} {nL : Nat} {J : gx_J} {ad bd : Nat → Nat} {rs : va_W} {k n pc : Nat} {L : List (Nat × Value)} {st : List Value} (g : gx_G D t (gx_E0 aa) l R cc RX2 nL J) {σ : (NS × NS)} (hd : decode cc pc = .ok (.getfield 28, 3)) (kk : J k n (nC ad t σ.1 ++ (nC bd t σ.2 ++ rs)) (pc + 3) L (.ref (bd 11) :: st)) : J k n (nC ad t σ.1 ++ (nC bd t σ.2 ++ rs)) pc L (.ref (bd 0) :: st) := j_get g in_X2 14 rfl rfl 2 (by decide) q_f_X2_28 rfl rfl hd kk
theorem cNN_X2_X0_copyFrom_3_7 {D : va_G} {t : Nat → ClassId} {aa : gx_AA} {l : Launch} {R : Room} {cc : ByteArray} {nL : Nat} {J : gx_J} {ad bd : Nat → Nat} {rs : va_W} {k n pc : Nat} {L : List (Nat × Value)} {rest : List Value} (g : gx_G D t (gx_E0 aa) l R cc RX2 nL J) {σ : (NS × NS)} {q : (OS × OS)} {fr lo : Nat} (hC : gx_C D t (gx_E0 aa) l yX0_copyFrom cX0_copyFrom 2 none fr lo [.ref (ad 11), .ref (bd 11)] (bC (fun p => ad (p + 11)) t σ.1.2.2.2 ++ (bC (fun p => bd (p + 11)) t σ.2.2.2.2 ++ ((((ad 0, .inr (4, [.ref (ad 1), .ref (ad 7), .ref (ad 11), .int (os_f σ.1.1 3), .int (os_f σ.1.1 4), .int (os_f σ.1.1 5), .int (os_f σ.1.1 6)])) :: (oC (fun p => ad (p + 1)) t σ.1.2.1 ++ dC (fun p => ad (p + 7)) t σ.1.2.2.1))) ++ ((((bd 0, .inr (4, [.ref (bd 1), .ref (bd 7), .ref (bd 11), .int (os_f σ.2.1 3), .int (os_f σ.2.1 4), .int (os_f σ.2.1 5), .int (os_f σ.2.1 6)])) :: (oC (fun p => bd (p + 1)) t σ.2.2.1 ++ dC (fun p => bd (p + 7)) t σ.2.2.2.1))) ++ rs)))) (bC (fun p => ad (p + 11)) t q.1 ++ (bC (fun p => bd (p + 11)) t q.2 ++ ((((ad 0, .inr (4, [.ref (ad 1), .ref (ad 7), .ref (ad 11), .int (os_f σ.1.1 3), .int (os_f σ.1.1 4), .int (os_f σ.1.1 5), .int (os_f σ.1.1 6)])) :: (oC (fun p => ad (p + 1)) t σ.1.2.1 ++ dC (fun p => ad (p + 7)) t σ.1.2.2.1))) ++ ((((bd 0, .inr (4, [.ref (bd 1), .ref (bd 7), .ref (bd 11), .int (os_f σ.2.1 3), .int (os_f σ.2.1 4), .int (os_f σ.2.1 5), .int (os_f σ.2.1 6)])) :: (oC (fun p => bd (p + 1)) t σ.2.2.1 ++ dC (fun p => bd (p + 7)) t σ.2.2.2.1))) ++ rs)))) none) (hR : fr + 1 ≤ R.frames ∧ 8 + (2 + 11) + lo ≤ R.locals) (hkn : k ≤ R.cells ∧ n ≤ R.slots) (hcat : (rest.map fun v => v.category).sum ≤ 8) (hd : decode cc pc = .ok (.invokevirtual 39, 3)) (kk : J k n (nC ad t (σ.1.1, σ.1.2.1, σ.1.2.2.1, q.1) ++ (nC bd t (σ.2.1, σ.2.2.1, σ.2.2.2.1, q.2) ++ rs)) (pc + 3) L (rest)) : J k n (nC ad t σ.1 ++ (nC bd t σ.2 ++ rs)) pc L (.ref (bd 11) :: .ref (ad 11) :: rest) := j_callVv (na := 1) (As := [.ref (bd 11)]) (q0 := 11) (ci := 2) g hC q_i_X0_copyFrom q_s_X0_copyFrom rfl rfl rfl q_c_X0_copyFrom q_l_X2_39 q_n_X0 (by decide +kernel) rfl hR hkn hcat (pm_p rs (fun r => pm_n3 ad t σ.1 r) (fun r => pm_n3 bd t σ.2 r)) ((pm_p rs (fun r => pm_n3 ad t (σ.1.1, σ.1.2.1, σ.1.2.2.1, q.1) r) (fun r => pm_n3 bd t (σ.2.1, σ.2.2.1, σ.2.2.2.1, q.2) r))).symm hd kk rfl
theorem gNN_X2_4_3 {D : va_G} {t : Nat → ClassId} {aa : gx_AA} {l : Launch} {R : Room} {cc : ByteArray} {nL : Nat} {J : gx_J} {ad bd : Nat → Nat} {rs : va_W} {k n pc : Nat} {L : List (Nat × Value)} {st : List Value} (g : gx_G D t (gx_E0 aa) l R cc RX2 nL J) {σ : (NS × NS)} (hd : decode cc pc = .ok (.getfield 42, 3)) (kk : J k n (nC ad t σ.1 ++ (nC bd t σ.2 ++ rs)) (pc + 3) L (.int (os_f σ.2.1 3) :: st)) : J k n (nC ad t σ.1 ++ (nC bd t σ.2 ++ rs)) pc L (.ref (bd 0) :: st) := j_get g in_X2 14 rfl rfl 3 (by decide) q_f_X2_42 rfl rfl hd kk
theorem pNN_X2_0_3 {D : va_G} {t : Nat → ClassId} {aa : gx_AA} {l : Launch} {R : Room} {cc : ByteArray} {nL : Nat} {J : gx_J} {ad bd : Nat → Nat} {rs : va_W} {k n pc : Nat} {L : List (Nat × Value)} {st : List Value} (g : gx_G D t (gx_E0 aa) l R cc RX2 nL J) {σ : (NS × NS)} {v : Int32} (hd : decode cc pc = .ok (.putfield 42, 3)) (kk : J k n (nC ad t (os_sf σ.1.1 3 v, σ.1.2) ++ (nC bd t σ.2 ++ rs)) (pc + 3) L st) : J k n (nC ad t σ.1 ++ (nC bd t σ.2 ++ rs)) pc L (.int v :: .ref (ad 0) :: st) := j_put (w' := nC ad t (os_sf σ.1.1 3 v, σ.1.2) ++ (nC bd t σ.2 ++ rs)) g in_X2 0 rfl rfl 3 (by decide) q_f_X2_42 rfl tyX2 tyX2_ok nmX2 rfl (ty := .int) (by decide +kernel) rfl rfl (Nat.le_of_ble_eq_true rfl) rfl hd kk
theorem gNN_X2_4_4 {D : va_G} {t : Nat → ClassId} {aa : gx_AA} {l : Launch} {R : Room} {cc : ByteArray} {nL : Nat} {J : gx_J} {ad bd : Nat → Nat} {rs : va_W} {k n pc : Nat} {L : List (Nat × Value)} {st : List Value} (g : gx_G D t (gx_E0 aa) l R cc RX2 nL J) {σ : (NS × NS)} (hd : decode cc pc = .ok (.getfield 46, 3)) (kk : J k n (nC ad t σ.1 ++ (nC bd t σ.2 ++ rs)) (pc + 3) L (.int (os_f σ.2.1 4) :: st)) : J k n (nC ad t σ.1 ++ (nC bd t σ.2 ++ rs)) pc L (.ref (bd 0) :: st) := j_get g in_X2 14 rfl rfl 4 (by decide) q_f_X2_46 rfl rfl hd kk
theorem pNN_X2_0_4 {D : va_G} {t : Nat → ClassId} {aa : gx_AA} {l : Launch} {R : Room} {cc : ByteArray} {nL : Nat} {J : gx_J} {ad bd : Nat → Nat} {rs : va_W} {k n pc : Nat} {L : List (Nat × Value)} {st : List Value} (g : gx_G D t (gx_E0 aa) l R cc RX2 nL J) {σ : (NS × NS)} {v : Int32} (hd : decode cc pc = .ok (.putfield 46, 3)) (kk : J k n (nC ad t (os_sf σ.1.1 4 v, σ.1.2) ++ (nC bd t σ.2 ++ rs)) (pc + 3) L st) : J k n (nC ad t σ.1 ++ (nC bd t σ.2 ++ rs)) pc L (.int v :: .ref (ad 0) :: st) := j_put (w' := nC ad t (os_sf σ.1.1 4 v, σ.1.2) ++ (nC bd t σ.2 ++ rs)) g in_X2 0 rfl rfl 4 (by decide) q_f_X2_46 rfl tyX2 tyX2_ok nmX2 rfl (ty := .int) (by decide +kernel) rfl rfl (Nat.le_of_ble_eq_true rfl) rfl hd kk
theorem gNN_X2_4_5 {D : va_G} {t : Nat → ClassId} {aa : gx_AA} {l : Launch} {R : Room} {cc : ByteArray} {nL : Nat} {J : gx_J} {ad bd : Nat → Nat} {rs : va_W} {k n pc : Nat} {L : List (Nat × Value)} {st : List Value} (g : gx_G D t (gx_E0 aa) l R cc RX2 nL J) {σ : (NS × NS)} (hd : decode cc pc = .ok (.getfield 49, 3)) (kk : J k n (nC ad t σ.1 ++ (nC bd t σ.2 ++ rs)) (pc + 3) L (.int (os_f σ.2.1 5) :: st)) : J k n (nC ad t σ.1 ++ (nC bd t σ.2 ++ rs)) pc L (.ref (bd 0) :: st) := j_get g in_X2 14 rfl rfl 5 (by decide) q_f_X2_49 rfl rfl hd kk
theorem pNN_X2_0_5 {D : va_G} {t : Nat → ClassId} {aa : gx_AA} {l : Launch} {R : Room} {cc : ByteArray} {nL : Nat} {J : gx_J} {ad bd : Nat → Nat} {rs : va_W} {k n pc : Nat} {L : List (Nat × Value)} {st : List Value} (g : gx_G D t (gx_E0 aa) l R cc RX2 nL J) {σ : (NS × NS)} {v : Int32} (hd : decode cc pc = .ok (.putfield 49, 3)) (kk : J k n (nC ad t (os_sf σ.1.1 5 v, σ.1.2) ++ (nC bd t σ.2 ++ rs)) (pc + 3) L st) : J k n (nC ad t σ.1 ++ (nC bd t σ.2 ++ rs)) pc L (.int v :: .ref (ad 0) :: st) := j_put (w' := nC ad t (os_sf σ.1.1 5 v, σ.1.2) ++ (nC bd t σ.2 ++ rs)) g in_X2 0 rfl rfl 5 (by decide) q_f_X2_49 rfl tyX2 tyX2_ok nmX2 rfl (ty := .int) (by decide +kernel) rfl rfl (Nat.le_of_ble_eq_true rfl) rfl hd kk
theorem gNN_X2_4_6 {D : va_G} {t : Nat → ClassId} {aa : gx_AA} {l : Launch} {R : Room} {cc : ByteArray} {nL : Nat} {J : gx_J} {ad bd : Nat → Nat} {rs : va_W} {k n pc : Nat} {L : List (Nat × Value)} {st : List Value} (g : gx_G D t (gx_E0 aa) l R cc RX2 nL J) {σ : (NS × NS)} (hd : decode cc pc = .ok (.getfield 52, 3)) (kk : J k n (nC ad t σ.1 ++ (nC bd t σ.2 ++ rs)) (pc + 3) L (.int (os_f σ.2.1 6) :: st)) : J k n (nC ad t σ.1 ++ (nC bd t σ.2 ++ rs)) pc L (.ref (bd 0) :: st) := j_get g in_X2 14 rfl rfl 6 (by decide) q_f_X2_52 rfl rfl hd kk
theorem pNN_X2_0_6 {D : va_G} {t : Nat → ClassId} {aa : gx_AA} {l : Launch} {R : Room} {cc : ByteArray} {nL : Nat} {J : gx_J} {ad bd : Nat → Nat} {rs : va_W} {k n pc : Nat} {L : List (Nat × Value)} {st : List Value} (g : gx_G D t (gx_E0 aa) l R cc RX2 nL J) {σ : (NS × NS)} {v : Int32} (hd : decode cc pc = .ok (.putfield 52, 3)) (kk : J k n (nC ad t (os_sf σ.1.1 6 v, σ.1.2) ++ (nC bd t σ.2 ++ rs)) (pc + 3) L st) : J k n (nC ad t σ.1 ++ (nC bd t σ.2 ++ rs)) pc L (.int v :: .ref (ad 0) :: st) := j_put (w' := nC ad t (os_sf σ.1.1 6 v, σ.1.2) ++ (nC bd t σ.2 ++ rs)) g in_X2 0 rfl rfl 6 (by decide) q_f_X2_52 rfl tyX2 tyX2_ok nmX2 rfl (ty := .int) (by decide +kernel) rfl rfl (Nat.le_of_ble_eq_true rfl) rfl hd kk
set_option maxRecDepth 100000 in
set_option maxHeartbeats 4000000 in
theorem cX2_copyFrom_ {D : va_G} {t : Nat → ClassId} {aa : gx_AA} {l : Launch} {ad bd : Nat → Nat} {rs : va_W} {σ : (NS × NS)} {q : (NS × NS)} (hf : fX2_copyFrom σ = some q) : gx_C D t (gx_E0 aa) l yX2_copyFrom cX2_copyFrom 2 none 2 62 [.ref (ad 0), .ref (bd 0)] (nC ad t σ.1 ++ (nC bd t σ.2 ++ rs)) (nC ad t q.1 ++ (nC bd t q.2 ++ rs)) none := by
  refine gx_intro_v (by decide) (Nat.le_of_ble_eq_true rfl) (fun J g hE0 => ?_)
  have hE : ∀ (σ : (NS × NS)) (pc : Nat) (L : List (Nat × Value)), some σ = some q → decode cX2_copyFrom pc = .ok (.return_, 1) → J 0 0 (nC ad t σ.1 ++ (nC bd t σ.2 ++ rs)) pc L [] := fun σ pc L h h1 => by cases h; exact hE0 pc L h1
  unfold fX2_copyFrom at hf
  show J 0 0 (nC ad t σ.1 ++ (nC bd t σ.2 ++ rs)) 0 [(0, .ref (ad 0)), (1, .ref (bd 0))] []
  refine j_aload_n (pc := 0) g 0 dX2_copyFrom_0 rfl ?_
  refine gNN_X2_0_0 (σ := σ) (pc := 1) g dX2_copyFrom_1 ?_
  refine j_aload_n (pc := 4) g 1 dX2_copyFrom_4 rfl ?_
  refine gNN_X2_4_0 (σ := σ) (pc := 5) g dX2_copyFrom_5 ?_
  obtain ⟨r8, h_8, hf⟩ := gx_bs hf
  refine cNN_X2_X3_copyFrom_1_5 (σ := σ) (pc := 8) g (cX3_copyFrom_ (ad := (fun p => ad (p + 1))) (bd := (fun p => bd (p + 1))) h_8) ⟨Nat.le_of_ble_eq_true rfl, Nat.le_of_ble_eq_true rfl⟩ ⟨Nat.zero_le _, Nat.zero_le _⟩ (Nat.le_of_ble_eq_true rfl) dX2_copyFrom_8 ?_
  refine j_aload_n (pc := 11) g 0 dX2_copyFrom_11 rfl ?_
  refine gNN_X2_0_1 (σ := ((σ.1.1, r8.1, σ.1.2.2), (σ.2.1, r8.2, σ.2.2.2))) (pc := 12) g dX2_copyFrom_12 ?_
  refine j_aload_n (pc := 15) g 1 dX2_copyFrom_15 rfl ?_
  refine gNN_X2_4_1 (σ := ((σ.1.1, r8.1, σ.1.2.2), (σ.2.1, r8.2, σ.2.2.2))) (pc := 16) g dX2_copyFrom_16 ?_
  obtain ⟨r19, h_19, hf⟩ := gx_bs hf
  refine cNN_X2_X4_copyFrom_2_6 (σ := ((σ.1.1, r8.1, σ.1.2.2), (σ.2.1, r8.2, σ.2.2.2))) (pc := 19) g (cX4_copyFrom_ (ad := (fun p => ad (p + 7))) (bd := (fun p => bd (p + 7))) h_19) ⟨Nat.le_of_ble_eq_true rfl, Nat.le_of_ble_eq_true rfl⟩ ⟨Nat.zero_le _, Nat.zero_le _⟩ (Nat.le_of_ble_eq_true rfl) dX2_copyFrom_19 ?_
  refine j_aload_n (pc := 22) g 0 dX2_copyFrom_22 rfl ?_
  refine gNN_X2_0_2 (σ := ((σ.1.1, r8.1, r19.1, σ.1.2.2.2), (σ.2.1, r8.2, r19.2, σ.2.2.2.2))) (pc := 23) g dX2_copyFrom_23 ?_
  refine j_aload_n (pc := 26) g 1 dX2_copyFrom_26 rfl ?_
  refine gNN_X2_4_2 (σ := ((σ.1.1, r8.1, r19.1, σ.1.2.2.2), (σ.2.1, r8.2, r19.2, σ.2.2.2.2))) (pc := 27) g dX2_copyFrom_27 ?_
  obtain ⟨r30, h_30, hf⟩ := gx_bs hf
  refine cNN_X2_X0_copyFrom_3_7 (σ := ((σ.1.1, r8.1, r19.1, σ.1.2.2.2), (σ.2.1, r8.2, r19.2, σ.2.2.2.2))) (pc := 30) g (cX0_copyFrom_ (ad := (fun p => ad (p + 11))) (bd := (fun p => bd (p + 11))) h_30) ⟨Nat.le_of_ble_eq_true rfl, Nat.le_of_ble_eq_true rfl⟩ ⟨Nat.zero_le _, Nat.zero_le _⟩ (Nat.le_of_ble_eq_true rfl) dX2_copyFrom_30 ?_
  refine j_aload_n (pc := 33) g 0 dX2_copyFrom_33 rfl ?_
  refine j_aload_n (pc := 34) g 1 dX2_copyFrom_34 rfl ?_
  refine gNN_X2_4_3 (σ := ((σ.1.1, r8.1, r19.1, r30.1), (σ.2.1, r8.2, r19.2, r30.2))) (pc := 35) g dX2_copyFrom_35 ?_
  refine pNN_X2_0_3 (σ := ((σ.1.1, r8.1, r19.1, r30.1), (σ.2.1, r8.2, r19.2, r30.2))) (pc := 38) g dX2_copyFrom_38 ?_
  refine j_aload_n (pc := 41) g 0 dX2_copyFrom_41 rfl ?_
  refine j_aload_n (pc := 42) g 1 dX2_copyFrom_42 rfl ?_
  refine gNN_X2_4_4 (σ := ((os_sf σ.1.1 3 (os_f σ.2.1 3), (r8.1, r19.1, r30.1)), (σ.2.1, r8.2, r19.2, r30.2))) (pc := 43) g dX2_copyFrom_43 ?_
  refine pNN_X2_0_4 (σ := ((os_sf σ.1.1 3 (os_f σ.2.1 3), (r8.1, r19.1, r30.1)), (σ.2.1, r8.2, r19.2, r30.2))) (pc := 46) g dX2_copyFrom_46 ?_
  refine j_aload_n (pc := 49) g 0 dX2_copyFrom_49 rfl ?_
  refine j_aload_n (pc := 50) g 1 dX2_copyFrom_50 rfl ?_
  refine gNN_X2_4_5 (σ := ((os_sf (os_sf σ.1.1 3 (os_f σ.2.1 3)) 4 (os_f σ.2.1 4), (r8.1, r19.1, r30.1)), (σ.2.1, r8.2, r19.2, r30.2))) (pc := 51) g dX2_copyFrom_51 ?_
  refine pNN_X2_0_5 (σ := ((os_sf (os_sf σ.1.1 3 (os_f σ.2.1 3)) 4 (os_f σ.2.1 4), (r8.1, r19.1, r30.1)), (σ.2.1, r8.2, r19.2, r30.2))) (pc := 54) g dX2_copyFrom_54 ?_
  refine j_aload_n (pc := 57) g 0 dX2_copyFrom_57 rfl ?_
  refine j_aload_n (pc := 58) g 1 dX2_copyFrom_58 rfl ?_
  refine gNN_X2_4_6 (σ := ((os_sf (os_sf (os_sf σ.1.1 3 (os_f σ.2.1 3)) 4 (os_f σ.2.1 4)) 5 (os_f σ.2.1 5), (r8.1, r19.1, r30.1)), (σ.2.1, r8.2, r19.2, r30.2))) (pc := 59) g dX2_copyFrom_59 ?_
  refine pNN_X2_0_6 (σ := ((os_sf (os_sf (os_sf σ.1.1 3 (os_f σ.2.1 3)) 4 (os_f σ.2.1 4)) 5 (os_f σ.2.1 5), (r8.1, r19.1, r30.1)), (σ.2.1, r8.2, r19.2, r30.2))) (pc := 62) g dX2_copyFrom_62 ?_
  exact hE _ _ _ hf dX2_copyFrom_65
theorem cN_X2_X3_serves_1 {D : va_G} {t : Nat → ClassId} {aa : gx_AA} {l : Launch} {R : Room} {cc : ByteArray} {nL : Nat} {J : gx_J} {ad : Nat → Nat} {rs : va_W} {k n pc : Nat} {L : List (Nat × Value)} {rest : List Value} (g : gx_G D t (gx_E0 aa) l R cc RX2 nL J) {σ : NS} {x0 : Int32} {q : Int32} {fr lo : Nat} (hC : gx_C D t (gx_E0 aa) l yX3_serves cX3_serves 2 (some .boolean) fr lo [.ref (ad 1), .int x0] (oC (fun p => ad (p + 1)) t σ.2.1 ++ (((ad 0, .inr (4, [.ref (ad 1), .ref (ad 7), .ref (ad 11), .int (os_f σ.1 3), .int (os_f σ.1 4), .int (os_f σ.1 5), .int (os_f σ.1 6)])) :: (dC (fun p => ad (p + 7)) t σ.2.2.1 ++ bC (fun p => ad (p + 11)) t σ.2.2.2)) ++ rs)) (oC (fun p => ad (p + 1)) t σ.2.1 ++ (((ad 0, .inr (4, [.ref (ad 1), .ref (ad 7), .ref (ad 11), .int (os_f σ.1 3), .int (os_f σ.1 4), .int (os_f σ.1 5), .int (os_f σ.1 6)])) :: (dC (fun p => ad (p + 7)) t σ.2.2.1 ++ bC (fun p => ad (p + 11)) t σ.2.2.2)) ++ rs)) (some (.int q))) (hR : fr + 1 ≤ R.frames ∧ 8 + (2 + 11) + lo ≤ R.locals) (hkn : k ≤ R.cells ∧ n ≤ R.slots) (hcat : (rest.map fun v => v.category).sum ≤ 8) (hd : decode cc pc = .ok (.invokevirtual 55, 3)) (kk : J k n (nC ad t σ ++ rs) (pc + 3) L (.int q :: rest)) : J k n (nC ad t σ ++ rs) pc L (.int x0 :: .ref (ad 1) :: rest) := j_callVi (na := 1) (As := [.int x0]) (q0 := 1) (ci := 5) g hC q_i_X3_serves q_s_X3_serves rfl rfl rfl q_c_X3_serves q_l_X2_55 q_n_X3 (by decide +kernel) rfl hR hkn hcat (pm_n1 ad t σ rs) ((pm_n1 ad t σ rs)).symm hd kk rfl
theorem gN_X2_1_0 {D : va_G} {t : Nat → ClassId} {aa : gx_AA} {l : Launch} {R : Room} {cc : ByteArray} {nL : Nat} {J : gx_J} {ad : Nat → Nat} {rs : va_W} {k n pc : Nat} {L : List (Nat × Value)} {st : List Value} (g : gx_G D t (gx_E0 aa) l R cc RX2 nL J) {σ : NS} (hd : decode cc pc = .ok (.getfield 59, 3)) (kk : J k n (nC ad t σ ++ rs) (pc + 3) L (.ref (ad 2) :: st)) : J k n (nC ad t σ ++ rs) pc L (.ref (ad 1) :: st) := j_get g in_X3 1 rfl rfl 0 (by decide) q_f_X2_59 rfl rfl hd kk
theorem lN_X2_1_0 {D : va_G} {t : Nat → ClassId} {aa : gx_AA} {l : Launch} {R : Room} {cc : ByteArray} {nL : Nat} {J : gx_J} {ad : Nat → Nat} {rs : va_W} {k n pc : Nat} {L : List (Nat × Value)} {st : List Value} (g : gx_G D t (gx_E0 aa) l R cc RX2 nL J) {σ : NS} {i : Int32} (hin : gx_in i 12) (hd : decode cc pc = .ok (.iaload, 1)) (kk : J k n (nC ad t σ ++ rs) (pc + 1) L (.int (os_a σ.2.1 0 i.toNatClampNeg) :: st)) : J k n (nC ad t σ ++ rs) pc L (.int i :: .ref (ad 2) :: st) := j_iald g 2 rfl hin hd kk
theorem gN_X2_1_5 {D : va_G} {t : Nat → ClassId} {aa : gx_AA} {l : Launch} {R : Room} {cc : ByteArray} {nL : Nat} {J : gx_J} {ad : Nat → Nat} {rs : va_W} {k n pc : Nat} {L : List (Nat × Value)} {st : List Value} (g : gx_G D t (gx_E0 aa) l R cc RX2 nL J) {σ : NS} (hd : decode cc pc = .ok (.getfield 63, 3)) (kk : J k n (nC ad t σ ++ rs) (pc + 3) L (.int (os_f σ.2.1 5) :: st)) : J k n (nC ad t σ ++ rs) pc L (.ref (ad 1) :: st) := j_get g in_X3 1 rfl rfl 5 (by decide) q_f_X2_63 rfl rfl hd kk
theorem cN_X2_X3_add_1 {D : va_G} {t : Nat → ClassId} {aa : gx_AA} {l : Launch} {R : Room} {cc : ByteArray} {nL : Nat} {J : gx_J} {ad : Nat → Nat} {rs : va_W} {k n pc : Nat} {L : List (Nat × Value)} {rest : List Value} (g : gx_G D t (gx_E0 aa) l R cc RX2 nL J) {σ : NS} {x0 x1 x2 : Int32} {q : (Int32 × OS)} {fr lo : Nat} (hC : gx_C D t (gx_E0 aa) l yX3_add cX3_add 5 (some .int) fr lo [.ref (ad 1), .int x0, .int x1, .int x2] (oC (fun p => ad (p + 1)) t σ.2.1 ++ (((ad 0, .inr (4, [.ref (ad 1), .ref (ad 7), .ref (ad 11), .int (os_f σ.1 3), .int (os_f σ.1 4), .int (os_f σ.1 5), .int (os_f σ.1 6)])) :: (dC (fun p => ad (p + 7)) t σ.2.2.1 ++ bC (fun p => ad (p + 11)) t σ.2.2.2)) ++ rs)) (oC (fun p => ad (p + 1)) t q.2 ++ (((ad 0, .inr (4, [.ref (ad 1), .ref (ad 7), .ref (ad 11), .int (os_f σ.1 3), .int (os_f σ.1 4), .int (os_f σ.1 5), .int (os_f σ.1 6)])) :: (dC (fun p => ad (p + 7)) t σ.2.2.1 ++ bC (fun p => ad (p + 11)) t σ.2.2.2)) ++ rs)) (some (.int q.1))) (hR : fr + 1 ≤ R.frames ∧ 8 + (5 + 11) + lo ≤ R.locals) (hkn : k ≤ R.cells ∧ n ≤ R.slots) (hcat : (rest.map fun v => v.category).sum ≤ 8) (hd : decode cc pc = .ok (.invokevirtual 66, 3)) (kk : J k n (nC ad t (σ.1, q.2, σ.2.2) ++ rs) (pc + 3) L (.int q.1 :: rest)) : J k n (nC ad t σ ++ rs) pc L (.int x2 :: .int x1 :: .int x0 :: .ref (ad 1) :: rest) := j_callVi (na := 3) (As := [.int x0, .int x1, .int x2]) (q0 := 1) (ci := 5) g hC q_i_X3_add q_s_X3_add rfl rfl rfl q_c_X3_add q_l_X2_66 q_n_X3 (by decide +kernel) rfl hR hkn hcat (pm_n1 ad t σ rs) ((pm_n1 ad t (σ.1, q.2, σ.2.2) rs)).symm hd kk rfl
set_option maxRecDepth 100000 in
set_option maxHeartbeats 4000000 in
theorem cX2_enlist_ {D : va_G} {t : Nat → ClassId} {aa : gx_AA} {l : Launch} {ad : Nat → Nat} {rs : va_W} {σ : NS} {p1 : Int32} {p2 : Int32} {p3 : Int32} {q : (Int32 × NS)} (hf : fX2_enlist σ p1 p2 p3 = some q) : gx_C D t (gx_E0 aa) l yX2_enlist cX2_enlist 4 (some .int) 1 24 [.ref (ad 0), .int p1, .int p2, .int p3] (nC ad t σ ++ rs) (nC ad t q.2 ++ rs) (some (.int q.1)) := by
  refine gx_intro_i (by decide) (Nat.le_of_ble_eq_true rfl) (fun J g hE0 => ?_)
  have hE : ∀ (v : Int32) (σ : NS) (pc : Nat) (L : List (Nat × Value)), some (v, σ) = some q → decode cX2_enlist pc = .ok (.ireturn, 1) → narrow .int (.int v) = .int v → J 0 0 (nC ad t σ ++ rs) pc L [.int v] := fun v σ pc L h h1 h2 => by cases h; exact hE0 pc L h1 h2
  unfold fX2_enlist at hf
  show J 0 0 (nC ad t σ ++ rs) 0 [(0, .ref (ad 0)), (1, .int p1), (2, .int p2), (3, .int p3)] []
  refine j_aload_n (pc := 0) g 0 dX2_enlist_0 rfl ?_
  refine gN_X2_0_0 (σ := σ) (pc := 1) g dX2_enlist_1 ?_
  refine j_iload_n (pc := 4) g 1 dX2_enlist_4 rfl ?_
  obtain ⟨r5, h_5, hf⟩ := gx_bs hf
  refine cN_X2_X3_serves_1 (σ := σ) (pc := 5) g (cX3_serves_ (ad := (fun p => ad (p + 1))) h_5) ⟨Nat.le_of_ble_eq_true rfl, Nat.le_of_ble_eq_true rfl⟩ ⟨Nat.zero_le _, Nat.zero_le _⟩ (Nat.le_of_ble_eq_true rfl) dX2_enlist_5 ?_
  refine j_if_ne (tgt := 13) (pc := 8) g dX2_enlist_8 (by decide) (fun c_8 => ?_) (fun c_8 => ?_)
  · have hf := gx_if c_8 hf
    refine j_iload_n (pc := 13) g 2 dX2_enlist_13 rfl ?_
    refine j_iconst (v := 1) (pc := 14) g dX2_enlist_14 (by decide) ?_
    refine j_icmp_lt (tgt := 41) (pc := 15) g dX2_enlist_15 (by decide) (fun c_15 => ?_) (fun c_15 => ?_)
    · have hf := gx_it c_15 hf
      refine j_bipush (v := -2) (pc := 41) g dX2_enlist_41 (by decide) ?_
      exact hE _ _ _ _ hf dX2_enlist_43 rfl
    · have hf := gx_if c_15 hf
      refine j_iload_n (pc := 18) g 2 dX2_enlist_18 rfl ?_
      refine j_aload_n (pc := 19) g 0 dX2_enlist_19 rfl ?_
      refine gN_X2_0_0 (σ := σ) (pc := 20) g dX2_enlist_20 ?_
      refine gN_X2_1_0 (σ := σ) (pc := 23) g dX2_enlist_23 ?_
      refine j_iload_n (pc := 26) g 1 dX2_enlist_26 rfl ?_
      obtain ⟨h_27, hf⟩ := gx_ck hf
      refine lN_X2_1_0 (σ := σ) (pc := 27) g h_27 dX2_enlist_27 ?_
      refine j_icmp_ge (tgt := 41) (pc := 28) g dX2_enlist_28 (by decide) (fun c_28 => ?_) (fun c_28 => ?_)
      · have hf := gx_it c_28 hf
        refine j_bipush (v := -2) (pc := 41) g dX2_enlist_41 (by decide) ?_
        exact hE _ _ _ _ hf dX2_enlist_43 rfl
      · have hf := gx_if c_28 hf
        refine j_iload_n (pc := 31) g 3 dX2_enlist_31 rfl ?_
        refine j_if_lt (tgt := 41) (pc := 32) g dX2_enlist_32 (by decide) (fun c_32 => ?_) (fun c_32 => ?_)
        · have hf := gx_it c_32 hf
          refine j_bipush (v := -2) (pc := 41) g dX2_enlist_41 (by decide) ?_
          exact hE _ _ _ _ hf dX2_enlist_43 rfl
        · have hf := gx_if c_32 hf
          refine j_iload_n (pc := 35) g 3 dX2_enlist_35 rfl ?_
          refine j_bipush (v := 100) (pc := 36) g dX2_enlist_36 (by decide) ?_
          refine j_icmp_le (tgt := 44) (pc := 38) g dX2_enlist_38 (by decide) (fun c_38 => ?_) (fun c_38 => ?_)
          · have hf := gx_it c_38 hf
            refine j_aload_n (pc := 44) g 0 dX2_enlist_44 rfl ?_
            refine gN_X2_0_0 (σ := σ) (pc := 45) g dX2_enlist_45 ?_
            refine gN_X2_1_5 (σ := σ) (pc := 48) g dX2_enlist_48 ?_
            refine j_bipush (v := 12) (pc := 51) g dX2_enlist_51 (by decide) ?_
            refine j_icmp_lt (tgt := 59) (pc := 53) g dX2_enlist_53 (by decide) (fun c_53 => ?_) (fun c_53 => ?_)
            · have hf := gx_it c_53 hf
              refine j_aload_n (pc := 59) g 0 dX2_enlist_59 rfl ?_
              refine gN_X2_0_0 (σ := σ) (pc := 60) g dX2_enlist_60 ?_
              refine j_iload_n (pc := 63) g 1 dX2_enlist_63 rfl ?_
              refine j_iload_n (pc := 64) g 2 dX2_enlist_64 rfl ?_
              refine j_iload_n (pc := 65) g 3 dX2_enlist_65 rfl ?_
              obtain ⟨r66, h_66, hf⟩ := gx_bs hf
              refine cN_X2_X3_add_1 (σ := σ) (pc := 66) g (cX3_add_ (ad := (fun p => ad (p + 1))) h_66) ⟨Nat.le_of_ble_eq_true rfl, Nat.le_of_ble_eq_true rfl⟩ ⟨Nat.zero_le _, Nat.zero_le _⟩ (Nat.le_of_ble_eq_true rfl) dX2_enlist_66 ?_
              exact hE _ _ _ _ hf dX2_enlist_69 rfl
            · have hf := gx_if c_53 hf
              refine j_bipush (v := -3) (pc := 56) g dX2_enlist_56 (by decide) ?_
              exact hE _ _ _ _ hf dX2_enlist_58 rfl
          · have hf := gx_if c_38 hf
            refine j_bipush (v := -2) (pc := 41) g dX2_enlist_41 (by decide) ?_
            exact hE _ _ _ _ hf dX2_enlist_43 rfl
  · have hf := gx_it c_8 hf
    refine j_iconst (v := -1) (pc := 11) g dX2_enlist_11 (by decide) ?_
    exact hE _ _ _ _ hf dX2_enlist_12 rfl
theorem gN_X2_1_3 {D : va_G} {t : Nat → ClassId} {aa : gx_AA} {l : Launch} {R : Room} {cc : ByteArray} {nL : Nat} {J : gx_J} {ad : Nat → Nat} {rs : va_W} {k n pc : Nat} {L : List (Nat × Value)} {st : List Value} (g : gx_G D t (gx_E0 aa) l R cc RX2 nL J) {σ : NS} (hd : decode cc pc = .ok (.getfield 70, 3)) (kk : J k n (nC ad t σ ++ rs) (pc + 3) L (.ref (ad 5) :: st)) : J k n (nC ad t σ ++ rs) pc L (.ref (ad 1) :: st) := j_get g in_X3 1 rfl rfl 3 (by decide) q_f_X2_70 rfl rfl hd kk
theorem lN_X2_1_3 {D : va_G} {t : Nat → ClassId} {aa : gx_AA} {l : Launch} {R : Room} {cc : ByteArray} {nL : Nat} {J : gx_J} {ad : Nat → Nat} {rs : va_W} {k n pc : Nat} {L : List (Nat × Value)} {st : List Value} (g : gx_G D t (gx_E0 aa) l R cc RX2 nL J) {σ : NS} {i : Int32} (hin : gx_in i 12) (hd : decode cc pc = .ok (.iaload, 1)) (kk : J k n (nC ad t σ ++ rs) (pc + 1) L (.int (os_a σ.2.1 3 i.toNatClampNeg) :: st)) : J k n (nC ad t σ ++ rs) pc L (.int i :: .ref (ad 5) :: st) := j_iald g 5 rfl hin hd kk
theorem sN_X2_1_0 {D : va_G} {t : Nat → ClassId} {aa : gx_AA} {l : Launch} {R : Room} {cc : ByteArray} {nL : Nat} {J : gx_J} {ad : Nat → Nat} {rs : va_W} {k n pc : Nat} {L : List (Nat × Value)} {st : List Value} (g : gx_G D t (gx_E0 aa) l R cc RX2 nL J) {σ : NS} {i x : Int32} (hin : gx_in i 12) (hd : decode cc pc = .ok (.iastore, 1)) (kk : J k n (nC ad t (σ.1, os_sa σ.2.1 0 i.toNatClampNeg x, σ.2.2) ++ rs) (pc + 1) L st) : J k n (nC ad t σ ++ rs) pc L (.int x :: .int i :: .ref (ad 2) :: st) := j_iast (w' := nC ad t (σ.1, os_sa σ.2.1 0 i.toNatClampNeg x, σ.2.2) ++ rs) g 2 rfl hin rfl hd kk
set_option maxRecDepth 100000 in
set_option maxHeartbeats 4000000 in
theorem cX2_raiseRank_ {D : va_G} {t : Nat → ClassId} {aa : gx_AA} {l : Launch} {ad : Nat → Nat} {rs : va_W} {σ : NS} {p1 : Int32} {q : (Int32 × NS)} (hf : fX2_raiseRank σ p1 = some q) : gx_C D t (gx_E0 aa) l yX2_raiseRank cX2_raiseRank 3 (some .int) 1 21 [.ref (ad 0), .int p1] (nC ad t σ ++ rs) (nC ad t q.2 ++ rs) (some (.int q.1)) := by
  refine gx_intro_i (by decide) (Nat.le_of_ble_eq_true rfl) (fun J g hE0 => ?_)
  have hE : ∀ (v : Int32) (σ : NS) (pc : Nat) (L : List (Nat × Value)), some (v, σ) = some q → decode cX2_raiseRank pc = .ok (.ireturn, 1) → narrow .int (.int v) = .int v → J 0 0 (nC ad t σ ++ rs) pc L [.int v] := fun v σ pc L h h1 h2 => by cases h; exact hE0 pc L h1 h2
  unfold fX2_raiseRank at hf
  show J 0 0 (nC ad t σ ++ rs) 0 [(0, .ref (ad 0)), (1, .int p1)] []
  refine j_aload_n (pc := 0) g 0 dX2_raiseRank_0 rfl ?_
  refine gN_X2_0_0 (σ := σ) (pc := 1) g dX2_raiseRank_1 ?_
  refine j_iload_n (pc := 4) g 1 dX2_raiseRank_4 rfl ?_
  obtain ⟨r5, h_5, hf⟩ := gx_bs hf
  refine cN_X2_X3_serves_1 (σ := σ) (pc := 5) g (cX3_serves_ (ad := (fun p => ad (p + 1))) h_5) ⟨Nat.le_of_ble_eq_true rfl, Nat.le_of_ble_eq_true rfl⟩ ⟨Nat.zero_le _, Nat.zero_le _⟩ (Nat.le_of_ble_eq_true rfl) dX2_raiseRank_5 ?_
  refine j_if_ne (tgt := 13) (pc := 8) g dX2_raiseRank_8 (by decide) (fun c_8 => ?_) (fun c_8 => ?_)
  · have hf := gx_if c_8 hf
    refine j_aload_n (pc := 13) g 0 dX2_raiseRank_13 rfl ?_
    refine gN_X2_0_0 (σ := σ) (pc := 14) g dX2_raiseRank_14 ?_
    refine gN_X2_1_3 (σ := σ) (pc := 17) g dX2_raiseRank_17 ?_
    refine j_iload_n (pc := 20) g 1 dX2_raiseRank_20 rfl ?_
    obtain ⟨h_21, hf⟩ := gx_ck hf
    refine lN_X2_1_3 (σ := σ) (pc := 21) g h_21 dX2_raiseRank_21 ?_
    refine j_istore_n (L' := [(2, .int (os_a σ.2.1 3 p1.toNatClampNeg)), (0, .ref (ad 0)), (1, .int p1)]) (pc := 22) g dX2_raiseRank_22 rfl (Nat.le_of_ble_eq_true rfl) rfl ?_
    refine j_iload_n (pc := 23) g 0 dX2_raiseRank_23 rfl ?_
    refine j_iconst (v := -1) (pc := 24) g dX2_raiseRank_24 (by decide) ?_
    refine j_icmp_eq (tgt := 51) (pc := 25) g dX2_raiseRank_25 (by decide) (fun c_25 => ?_) (fun c_25 => ?_)
    · have hf := gx_it c_25 hf
      refine j_bipush (v := -3) (pc := 51) g dX2_raiseRank_51 (by decide) ?_
      exact hE _ _ _ _ hf dX2_raiseRank_53 rfl
    · have hf := gx_if c_25 hf
      refine j_aload_n (pc := 28) g 1 dX2_raiseRank_28 rfl ?_
      refine gN_X2_0_0 (σ := σ) (pc := 29) g dX2_raiseRank_29 ?_
      refine gN_X2_1_0 (σ := σ) (pc := 32) g dX2_raiseRank_32 ?_
      refine j_iload_n (pc := 35) g 2 dX2_raiseRank_35 rfl ?_
      obtain ⟨h_36, hf⟩ := gx_ck hf
      refine lN_X2_1_0 (σ := σ) (pc := 36) g h_36 dX2_raiseRank_36 ?_
      refine j_iconst (v := 1) (pc := 37) g dX2_raiseRank_37 (by decide) ?_
      refine j_iadd (pc := 38) g dX2_raiseRank_38 ?_
      refine j_aload_n (pc := 39) g 1 dX2_raiseRank_39 rfl ?_
      refine gN_X2_0_0 (σ := σ) (pc := 40) g dX2_raiseRank_40 ?_
      refine gN_X2_1_0 (σ := σ) (pc := 43) g dX2_raiseRank_43 ?_
      refine j_iload_n (pc := 46) g 0 dX2_raiseRank_46 rfl ?_
      obtain ⟨h_47, hf⟩ := gx_ck hf
      refine lN_X2_1_0 (σ := σ) (pc := 47) g h_47 dX2_raiseRank_47 ?_
      refine j_icmp_lt (tgt := 54) (pc := 48) g dX2_raiseRank_48 (by decide) (fun c_48 => ?_) (fun c_48 => ?_)
      · have hf := gx_it c_48 hf
        refine j_aload_n (pc := 54) g 1 dX2_raiseRank_54 rfl ?_
        refine gN_X2_0_0 (σ := σ) (pc := 55) g dX2_raiseRank_55 ?_
        refine gN_X2_1_0 (σ := σ) (pc := 58) g dX2_raiseRank_58 ?_
        refine j_iload_n (pc := 61) g 2 dX2_raiseRank_61 rfl ?_
        refine j_dup2 (pc := 62) g dX2_raiseRank_62 rfl rfl ?_
        obtain ⟨h_63, hf⟩ := gx_ck hf
        refine lN_X2_1_0 (σ := σ) (pc := 63) g h_63 dX2_raiseRank_63 ?_
        refine j_iconst (v := 1) (pc := 64) g dX2_raiseRank_64 (by decide) ?_
        refine j_iadd (pc := 65) g dX2_raiseRank_65 ?_
        obtain ⟨h_66, hf⟩ := gx_ck hf
        refine sN_X2_1_0 (σ := σ) (pc := 66) g h_66 dX2_raiseRank_66 ?_
        refine j_aload_n (pc := 67) g 1 dX2_raiseRank_67 rfl ?_
        refine gN_X2_0_0 (σ := (σ.1, os_sa σ.2.1 0 p1.toNatClampNeg ((os_a σ.2.1 0 p1.toNatClampNeg) + (1 : Int32)), σ.2.2)) (pc := 68) g dX2_raiseRank_68 ?_
        refine gN_X2_1_0 (σ := (σ.1, os_sa σ.2.1 0 p1.toNatClampNeg ((os_a σ.2.1 0 p1.toNatClampNeg) + (1 : Int32)), σ.2.2)) (pc := 71) g dX2_raiseRank_71 ?_
        refine j_iload_n (pc := 74) g 2 dX2_raiseRank_74 rfl ?_
        obtain ⟨h_75, hf⟩ := gx_ck hf
        refine lN_X2_1_0 (σ := (σ.1, os_sa σ.2.1 0 p1.toNatClampNeg ((os_a σ.2.1 0 p1.toNatClampNeg) + (1 : Int32)), σ.2.2)) (pc := 75) g h_75 dX2_raiseRank_75 ?_
        exact hE _ _ _ _ hf dX2_raiseRank_76 rfl
      · have hf := gx_if c_48 hf
        refine j_bipush (v := -3) (pc := 51) g dX2_raiseRank_51 (by decide) ?_
        exact hE _ _ _ _ hf dX2_raiseRank_53 rfl
  · have hf := gx_it c_8 hf
    refine j_iconst (v := -1) (pc := 11) g dX2_raiseRank_11 (by decide) ?_
    exact hE _ _ _ _ hf dX2_raiseRank_12 rfl
theorem cN_X2_X3_isOver_1 {D : va_G} {t : Nat → ClassId} {aa : gx_AA} {l : Launch} {R : Room} {cc : ByteArray} {nL : Nat} {J : gx_J} {ad : Nat → Nat} {rs : va_W} {k n pc : Nat} {L : List (Nat × Value)} {rest : List Value} (g : gx_G D t (gx_E0 aa) l R cc RX2 nL J) {σ : NS} {x0 x1 : Int32} {q : Int32} {fr lo : Nat} (hC : gx_C D t (gx_E0 aa) l yX3_isOver cX3_isOver 3 (some .boolean) fr lo [.ref (ad 1), .int x0, .int x1] (oC (fun p => ad (p + 1)) t σ.2.1 ++ (((ad 0, .inr (4, [.ref (ad 1), .ref (ad 7), .ref (ad 11), .int (os_f σ.1 3), .int (os_f σ.1 4), .int (os_f σ.1 5), .int (os_f σ.1 6)])) :: (dC (fun p => ad (p + 7)) t σ.2.2.1 ++ bC (fun p => ad (p + 11)) t σ.2.2.2)) ++ rs)) (oC (fun p => ad (p + 1)) t σ.2.1 ++ (((ad 0, .inr (4, [.ref (ad 1), .ref (ad 7), .ref (ad 11), .int (os_f σ.1 3), .int (os_f σ.1 4), .int (os_f σ.1 5), .int (os_f σ.1 6)])) :: (dC (fun p => ad (p + 7)) t σ.2.2.1 ++ bC (fun p => ad (p + 11)) t σ.2.2.2)) ++ rs)) (some (.int q))) (hR : fr + 1 ≤ R.frames ∧ 8 + (3 + 11) + lo ≤ R.locals) (hkn : k ≤ R.cells ∧ n ≤ R.slots) (hcat : (rest.map fun v => v.category).sum ≤ 8) (hd : decode cc pc = .ok (.invokevirtual 73, 3)) (kk : J k n (nC ad t σ ++ rs) (pc + 3) L (.int q :: rest)) : J k n (nC ad t σ ++ rs) pc L (.int x1 :: .int x0 :: .ref (ad 1) :: rest) := j_callVi (na := 2) (As := [.int x0, .int x1]) (q0 := 1) (ci := 5) g hC q_i_X3_isOver q_s_X3_isOver rfl rfl rfl q_c_X3_isOver q_l_X2_73 q_n_X3 (by decide +kernel) rfl hR hkn hcat (pm_n1 ad t σ rs) ((pm_n1 ad t σ rs)).symm hd kk rfl
theorem sN_X2_1_3 {D : va_G} {t : Nat → ClassId} {aa : gx_AA} {l : Launch} {R : Room} {cc : ByteArray} {nL : Nat} {J : gx_J} {ad : Nat → Nat} {rs : va_W} {k n pc : Nat} {L : List (Nat × Value)} {st : List Value} (g : gx_G D t (gx_E0 aa) l R cc RX2 nL J) {σ : NS} {i x : Int32} (hin : gx_in i 12) (hd : decode cc pc = .ok (.iastore, 1)) (kk : J k n (nC ad t (σ.1, os_sa σ.2.1 3 i.toNatClampNeg x, σ.2.2) ++ rs) (pc + 1) L st) : J k n (nC ad t σ ++ rs) pc L (.int x :: .int i :: .ref (ad 5) :: st) := j_iast (w' := nC ad t (σ.1, os_sa σ.2.1 3 i.toNatClampNeg x, σ.2.2) ++ rs) g 5 rfl hin rfl hd kk
theorem cN_X2_X3_sizeGoingDown_1 {D : va_G} {t : Nat → ClassId} {aa : gx_AA} {l : Launch} {R : Room} {cc : ByteArray} {nL : Nat} {J : gx_J} {ad : Nat → Nat} {rs : va_W} {k n pc : Nat} {L : List (Nat × Value)} {rest : List Value} (g : gx_G D t (gx_E0 aa) l R cc RX2 nL J) {σ : NS} {x0 x1 : Int32} {q : Int32} {fr lo : Nat} (hC : gx_C D t (gx_E0 aa) l yX3_sizeGoingDown cX3_sizeGoingDown 5 (some .int) fr lo [.ref (ad 1), .int x0, .int x1] (oC (fun p => ad (p + 1)) t σ.2.1 ++ (((ad 0, .inr (4, [.ref (ad 1), .ref (ad 7), .ref (ad 11), .int (os_f σ.1 3), .int (os_f σ.1 4), .int (os_f σ.1 5), .int (os_f σ.1 6)])) :: (dC (fun p => ad (p + 7)) t σ.2.2.1 ++ bC (fun p => ad (p + 11)) t σ.2.2.2)) ++ rs)) (oC (fun p => ad (p + 1)) t σ.2.1 ++ (((ad 0, .inr (4, [.ref (ad 1), .ref (ad 7), .ref (ad 11), .int (os_f σ.1 3), .int (os_f σ.1 4), .int (os_f σ.1 5), .int (os_f σ.1 6)])) :: (dC (fun p => ad (p + 7)) t σ.2.2.1 ++ bC (fun p => ad (p + 11)) t σ.2.2.2)) ++ rs)) (some (.int q))) (hR : fr + 1 ≤ R.frames ∧ 8 + (5 + 11) + lo ≤ R.locals) (hkn : k ≤ R.cells ∧ n ≤ R.slots) (hcat : (rest.map fun v => v.category).sum ≤ 8) (hd : decode cc pc = .ok (.invokestatic 77, 3)) (kk : J k n (nC ad t σ ++ rs) (pc + 3) L (.int q :: rest)) : J k n (nC ad t σ ++ rs) pc L (.int x1 :: .int x0 :: .ref (ad 1) :: rest) := j_callSni (na := 3) (As := [.ref (ad 1), .int x0, .int x1]) g hC q_e_X2_77 q_t_X3_sizeGoingDown q_c_X3_sizeGoingDown q_n_X3 (by decide +kernel) rfl hR hkn hcat (pm_n1 ad t σ rs) ((pm_n1 ad t σ rs)).symm hd kk rfl
set_option maxRecDepth 100000 in
set_option maxHeartbeats 4000000 in
theorem cX2_move_ {D : va_G} {t : Nat → ClassId} {aa : gx_AA} {l : Launch} {ad : Nat → Nat} {rs : va_W} {σ : NS} {p1 : Int32} {p2 : Int32} {q : (Int32 × NS)} (hf : fX2_move σ p1 p2 = some q) : gx_C D t (gx_E0 aa) l yX2_move cX2_move 3 (some .int) 17 408 [.ref (ad 0), .int p1, .int p2] (nC ad t σ ++ rs) (nC ad t q.2 ++ rs) (some (.int q.1)) := by
  refine gx_intro_i (by decide) (Nat.le_of_ble_eq_true rfl) (fun J g hE0 => ?_)
  have hE : ∀ (v : Int32) (σ : NS) (pc : Nat) (L : List (Nat × Value)), some (v, σ) = some q → decode cX2_move pc = .ok (.ireturn, 1) → narrow .int (.int v) = .int v → J 0 0 (nC ad t σ ++ rs) pc L [.int v] := fun v σ pc L h h1 h2 => by cases h; exact hE0 pc L h1 h2
  unfold fX2_move at hf
  show J 0 0 (nC ad t σ ++ rs) 0 [(0, .ref (ad 0)), (1, .int p1), (2, .int p2)] []
  refine j_aload_n (pc := 0) g 0 dX2_move_0 rfl ?_
  refine gN_X2_0_0 (σ := σ) (pc := 1) g dX2_move_1 ?_
  refine j_iload_n (pc := 4) g 1 dX2_move_4 rfl ?_
  obtain ⟨r5, h_5, hf⟩ := gx_bs hf
  refine cN_X2_X3_serves_1 (σ := σ) (pc := 5) g (cX3_serves_ (ad := (fun p => ad (p + 1))) h_5) ⟨Nat.le_of_ble_eq_true rfl, Nat.le_of_ble_eq_true rfl⟩ ⟨Nat.zero_le _, Nat.zero_le _⟩ (Nat.le_of_ble_eq_true rfl) dX2_move_5 ?_
  refine j_if_eq (tgt := 22) (pc := 8) g dX2_move_8 (by decide) (fun c_8 => ?_) (fun c_8 => ?_)
  · have hf := gx_it c_8 hf
    refine j_iconst (v := -1) (pc := 22) g dX2_move_22 (by decide) ?_
    exact hE _ _ _ _ hf dX2_move_23 rfl
  · have hf := gx_if c_8 hf
    refine j_aload_n (pc := 11) g 0 dX2_move_11 rfl ?_
    refine gN_X2_0_0 (σ := σ) (pc := 12) g dX2_move_12 ?_
    refine j_iload_n (pc := 15) g 2 dX2_move_15 rfl ?_
    obtain ⟨r16, h_16, hf⟩ := gx_bs hf
    refine cN_X2_X3_serves_1 (σ := σ) (pc := 16) g (cX3_serves_ (ad := (fun p => ad (p + 1))) h_16) ⟨Nat.le_of_ble_eq_true rfl, Nat.le_of_ble_eq_true rfl⟩ ⟨Nat.zero_le _, Nat.zero_le _⟩ (Nat.le_of_ble_eq_true rfl) dX2_move_16 ?_
    refine j_if_ne (tgt := 24) (pc := 19) g dX2_move_19 (by decide) (fun c_19 => ?_) (fun c_19 => ?_)
    · have hf := gx_if c_19 hf
      refine j_iload_n (pc := 24) g 1 dX2_move_24 rfl ?_
      refine j_if_eq (tgt := 33) (pc := 25) g dX2_move_25 (by decide) (fun c_25 => ?_) (fun c_25 => ?_)
      · have hf := gx_it c_25 hf
        refine j_bipush (v := -2) (pc := 33) g dX2_move_33 (by decide) ?_
        exact hE _ _ _ _ hf dX2_move_35 rfl
      · have hf := gx_if c_25 hf
        refine j_iload_n (pc := 28) g 1 dX2_move_28 rfl ?_
        refine j_iload_n (pc := 29) g 2 dX2_move_29 rfl ?_
        refine j_icmp_ne (tgt := 36) (pc := 30) g dX2_move_30 (by decide) (fun c_30 => ?_) (fun c_30 => ?_)
        · have hf := gx_if c_30 hf
          refine j_aload_n (pc := 36) g 0 dX2_move_36 rfl ?_
          refine gN_X2_0_0 (σ := σ) (pc := 37) g dX2_move_37 ?_
          refine j_iload_n (pc := 40) g 1 dX2_move_40 rfl ?_
          refine j_iload_n (pc := 41) g 2 dX2_move_41 rfl ?_
          obtain ⟨r42, h_42, hf⟩ := gx_bs hf
          refine cN_X2_X3_isOver_1 (σ := σ) (pc := 42) g (cX3_isOver_ (ad := (fun p => ad (p + 1))) h_42) ⟨Nat.le_of_ble_eq_true rfl, Nat.le_of_ble_eq_true rfl⟩ ⟨Nat.zero_le _, Nat.zero_le _⟩ (Nat.le_of_ble_eq_true rfl) dX2_move_42 ?_
          refine j_if_eq (tgt := 51) (pc := 45) g dX2_move_45 (by decide) (fun c_45 => ?_) (fun c_45 => ?_)
          · have hf := gx_it c_45 hf
            refine j_aload_n (pc := 51) g 0 dX2_move_51 rfl ?_
            refine gN_X2_0_0 (σ := σ) (pc := 52) g dX2_move_52 ?_
            refine gN_X2_1_0 (σ := σ) (pc := 55) g dX2_move_55 ?_
            refine j_iload_n (pc := 58) g 2 dX2_move_58 rfl ?_
            obtain ⟨h_59, hf⟩ := gx_ck hf
            refine lN_X2_1_0 (σ := σ) (pc := 59) g h_59 dX2_move_59 ?_
            refine j_aload_n (pc := 60) g 0 dX2_move_60 rfl ?_
            refine gN_X2_0_0 (σ := σ) (pc := 61) g dX2_move_61 ?_
            refine gN_X2_1_0 (σ := σ) (pc := 64) g dX2_move_64 ?_
            refine j_iload_n (pc := 67) g 1 dX2_move_67 rfl ?_
            obtain ⟨h_68, hf⟩ := gx_ck hf
            refine lN_X2_1_0 (σ := σ) (pc := 68) g h_68 dX2_move_68 ?_
            refine j_icmp_gt (tgt := 75) (pc := 69) g dX2_move_69 (by decide) (fun c_69 => ?_) (fun c_69 => ?_)
            · have hf := gx_it c_69 hf
              refine j_aload_n (pc := 75) g 0 dX2_move_75 rfl ?_
              refine gN_X2_0_0 (σ := σ) (pc := 76) g dX2_move_76 ?_
              refine gN_X2_1_3 (σ := σ) (pc := 79) g dX2_move_79 ?_
              refine j_iload_n (pc := 82) g 1 dX2_move_82 rfl ?_
              refine j_iload_n (pc := 83) g 2 dX2_move_83 rfl ?_
              obtain ⟨h_84, hf⟩ := gx_ck hf
              refine sN_X2_1_3 (σ := σ) (pc := 84) g h_84 dX2_move_84 ?_
              refine j_aload_n (pc := 85) g 0 dX2_move_85 rfl ?_
              refine gN_X2_0_0 (σ := (σ.1, os_sa σ.2.1 3 p1.toNatClampNeg p2, σ.2.2)) (pc := 86) g dX2_move_86 ?_
              refine j_iload_n (pc := 89) g 2 dX2_move_89 rfl ?_
              refine j_iconst (v := 0) (pc := 90) g dX2_move_90 (by decide) ?_
              obtain ⟨r91, h_91, hf⟩ := gx_bs hf
              refine cN_X2_X3_sizeGoingDown_1 (σ := (σ.1, os_sa σ.2.1 3 p1.toNatClampNeg p2, σ.2.2)) (pc := 91) g (cX3_sizeGoingDown_ (ad := (fun p => ad (p + 1))) 16 h_91) ⟨Nat.le_of_ble_eq_true rfl, Nat.le_of_ble_eq_true rfl⟩ ⟨Nat.zero_le _, Nat.zero_le _⟩ (Nat.le_of_ble_eq_true rfl) dX2_move_91 ?_
              exact hE _ _ _ _ hf dX2_move_94 rfl
            · have hf := gx_if c_69 hf
              refine j_bipush (v := -3) (pc := 72) g dX2_move_72 (by decide) ?_
              exact hE _ _ _ _ hf dX2_move_74 rfl
          · have hf := gx_if c_45 hf
            refine j_bipush (v := -4) (pc := 48) g dX2_move_48 (by decide) ?_
            exact hE _ _ _ _ hf dX2_move_50 rfl
        · have hf := gx_it c_30 hf
          refine j_bipush (v := -2) (pc := 33) g dX2_move_33 (by decide) ?_
          exact hE _ _ _ _ hf dX2_move_35 rfl
    · have hf := gx_it c_19 hf
      refine j_iconst (v := -1) (pc := 22) g dX2_move_22 (by decide) ?_
      exact hE _ _ _ _ hf dX2_move_23 rfl
theorem cN_X2_X3_countSubordinates_1 {D : va_G} {t : Nat → ClassId} {aa : gx_AA} {l : Launch} {R : Room} {cc : ByteArray} {nL : Nat} {J : gx_J} {ad : Nat → Nat} {rs : va_W} {k n pc : Nat} {L : List (Nat × Value)} {rest : List Value} (g : gx_G D t (gx_E0 aa) l R cc RX2 nL J) {σ : NS} {x0 : Int32} {q : Int32} {fr lo : Nat} (hC : gx_C D t (gx_E0 aa) l yX3_countSubordinates cX3_countSubordinates 4 (some .int) fr lo [.ref (ad 1), .int x0] (oC (fun p => ad (p + 1)) t σ.2.1 ++ (((ad 0, .inr (4, [.ref (ad 1), .ref (ad 7), .ref (ad 11), .int (os_f σ.1 3), .int (os_f σ.1 4), .int (os_f σ.1 5), .int (os_f σ.1 6)])) :: (dC (fun p => ad (p + 7)) t σ.2.2.1 ++ bC (fun p => ad (p + 11)) t σ.2.2.2)) ++ rs)) (oC (fun p => ad (p + 1)) t σ.2.1 ++ (((ad 0, .inr (4, [.ref (ad 1), .ref (ad 7), .ref (ad 11), .int (os_f σ.1 3), .int (os_f σ.1 4), .int (os_f σ.1 5), .int (os_f σ.1 6)])) :: (dC (fun p => ad (p + 7)) t σ.2.2.1 ++ bC (fun p => ad (p + 11)) t σ.2.2.2)) ++ rs)) (some (.int q))) (hR : fr + 1 ≤ R.frames ∧ 8 + (4 + 11) + lo ≤ R.locals) (hkn : k ≤ R.cells ∧ n ≤ R.slots) (hcat : (rest.map fun v => v.category).sum ≤ 8) (hd : decode cc pc = .ok (.invokevirtual 81, 3)) (kk : J k n (nC ad t σ ++ rs) (pc + 3) L (.int q :: rest)) : J k n (nC ad t σ ++ rs) pc L (.int x0 :: .ref (ad 1) :: rest) := j_callVi (na := 1) (As := [.int x0]) (q0 := 1) (ci := 5) g hC q_i_X3_countSubordinates q_s_X3_countSubordinates rfl rfl rfl q_c_X3_countSubordinates q_l_X2_81 q_n_X3 (by decide +kernel) rfl hR hkn hcat (pm_n1 ad t σ rs) ((pm_n1 ad t σ rs)).symm hd kk rfl
theorem cN_X2_X4_add_2 {D : va_G} {t : Nat → ClassId} {aa : gx_AA} {l : Launch} {R : Room} {cc : ByteArray} {nL : Nat} {J : gx_J} {ad : Nat → Nat} {rs : va_W} {k n pc : Nat} {L : List (Nat × Value)} {rest : List Value} (g : gx_G D t (gx_E0 aa) l R cc RX2 nL J) {σ : NS} {x0 x1 x2 : Int32} {q : (Int32 × OS)} {fr lo : Nat} (hC : gx_C D t (gx_E0 aa) l yX4_add cX4_add 5 (some .int) fr lo [.ref (ad 7), .int x0, .int x1, .int x2] (dC (fun p => ad (p + 7)) t σ.2.2.1 ++ (((ad 0, .inr (4, [.ref (ad 1), .ref (ad 7), .ref (ad 11), .int (os_f σ.1 3), .int (os_f σ.1 4), .int (os_f σ.1 5), .int (os_f σ.1 6)])) :: (oC (fun p => ad (p + 1)) t σ.2.1 ++ bC (fun p => ad (p + 11)) t σ.2.2.2)) ++ rs)) (dC (fun p => ad (p + 7)) t q.2 ++ (((ad 0, .inr (4, [.ref (ad 1), .ref (ad 7), .ref (ad 11), .int (os_f σ.1 3), .int (os_f σ.1 4), .int (os_f σ.1 5), .int (os_f σ.1 6)])) :: (oC (fun p => ad (p + 1)) t σ.2.1 ++ bC (fun p => ad (p + 11)) t σ.2.2.2)) ++ rs)) (some (.int q.1))) (hR : fr + 1 ≤ R.frames ∧ 8 + (5 + 11) + lo ≤ R.locals) (hkn : k ≤ R.cells ∧ n ≤ R.slots) (hcat : (rest.map fun v => v.category).sum ≤ 8) (hd : decode cc pc = .ok (.invokevirtual 92, 3)) (kk : J k n (nC ad t (σ.1, σ.2.1, q.2, σ.2.2.2) ++ rs) (pc + 3) L (.int q.1 :: rest)) : J k n (nC ad t σ ++ rs) pc L (.int x2 :: .int x1 :: .int x0 :: .ref (ad 7) :: rest) := j_callVi (na := 3) (As := [.int x0, .int x1, .int x2]) (q0 := 7) (ci := 6) g hC q_i_X4_add q_s_X4_add rfl rfl rfl q_c_X4_add q_l_X2_92 q_n_X4 (by decide +kernel) rfl hR hkn hcat (pm_n2 ad t σ rs) ((pm_n2 ad t (σ.1, σ.2.1, q.2, σ.2.2.2) rs)).symm hd kk rfl
set_option maxRecDepth 100000 in
set_option maxHeartbeats 4000000 in
theorem cX2_giveOrder_ {D : va_G} {t : Nat → ClassId} {aa : gx_AA} {l : Launch} {ad : Nat → Nat} {rs : va_W} {σ : NS} {p1 : Int32} {p2 : Int32} {p3 : Int32} {q : (Int32 × NS)} (hf : fX2_giveOrder σ p1 p2 p3 = some q) : gx_C D t (gx_E0 aa) l yX2_giveOrder cX2_giveOrder 4 (some .int) 2 46 [.ref (ad 0), .int p1, .int p2, .int p3] (nC ad t σ ++ rs) (nC ad t q.2 ++ rs) (some (.int q.1)) := by
  refine gx_intro_i (by decide) (Nat.le_of_ble_eq_true rfl) (fun J g hE0 => ?_)
  have hE : ∀ (v : Int32) (σ : NS) (pc : Nat) (L : List (Nat × Value)), some (v, σ) = some q → decode cX2_giveOrder pc = .ok (.ireturn, 1) → narrow .int (.int v) = .int v → J 0 0 (nC ad t σ ++ rs) pc L [.int v] := fun v σ pc L h h1 h2 => by cases h; exact hE0 pc L h1 h2
  unfold fX2_giveOrder at hf
  show J 0 0 (nC ad t σ ++ rs) 0 [(0, .ref (ad 0)), (1, .int p1), (2, .int p2), (3, .int p3)] []
  refine j_aload_n (pc := 0) g 0 dX2_giveOrder_0 rfl ?_
  refine gN_X2_0_0 (σ := σ) (pc := 1) g dX2_giveOrder_1 ?_
  refine j_iload_n (pc := 4) g 1 dX2_giveOrder_4 rfl ?_
  obtain ⟨r5, h_5, hf⟩ := gx_bs hf
  refine cN_X2_X3_serves_1 (σ := σ) (pc := 5) g (cX3_serves_ (ad := (fun p => ad (p + 1))) h_5) ⟨Nat.le_of_ble_eq_true rfl, Nat.le_of_ble_eq_true rfl⟩ ⟨Nat.zero_le _, Nat.zero_le _⟩ (Nat.le_of_ble_eq_true rfl) dX2_giveOrder_5 ?_
  refine j_if_eq (tgt := 22) (pc := 8) g dX2_giveOrder_8 (by decide) (fun c_8 => ?_) (fun c_8 => ?_)
  · have hf := gx_it c_8 hf
    refine j_iconst (v := -1) (pc := 22) g dX2_giveOrder_22 (by decide) ?_
    exact hE _ _ _ _ hf dX2_giveOrder_23 rfl
  · have hf := gx_if c_8 hf
    refine j_aload_n (pc := 11) g 0 dX2_giveOrder_11 rfl ?_
    refine gN_X2_0_0 (σ := σ) (pc := 12) g dX2_giveOrder_12 ?_
    refine j_iload_n (pc := 15) g 2 dX2_giveOrder_15 rfl ?_
    obtain ⟨r16, h_16, hf⟩ := gx_bs hf
    refine cN_X2_X3_serves_1 (σ := σ) (pc := 16) g (cX3_serves_ (ad := (fun p => ad (p + 1))) h_16) ⟨Nat.le_of_ble_eq_true rfl, Nat.le_of_ble_eq_true rfl⟩ ⟨Nat.zero_le _, Nat.zero_le _⟩ (Nat.le_of_ble_eq_true rfl) dX2_giveOrder_16 ?_
    refine j_if_ne (tgt := 24) (pc := 19) g dX2_giveOrder_19 (by decide) (fun c_19 => ?_) (fun c_19 => ?_)
    · have hf := gx_if c_19 hf
      refine j_iload_n (pc := 24) g 3 dX2_giveOrder_24 rfl ?_
      refine j_if_lt (tgt := 34) (pc := 25) g dX2_giveOrder_25 (by decide) (fun c_25 => ?_) (fun c_25 => ?_)
      · have hf := gx_it c_25 hf
        refine j_bipush (v := -2) (pc := 34) g dX2_giveOrder_34 (by decide) ?_
        exact hE _ _ _ _ hf dX2_giveOrder_36 rfl
      · have hf := gx_if c_25 hf
        refine j_iload_n (pc := 28) g 3 dX2_giveOrder_28 rfl ?_
        refine j_bipush (v := 100) (pc := 29) g dX2_giveOrder_29 (by decide) ?_
        refine j_icmp_le (tgt := 37) (pc := 31) g dX2_giveOrder_31 (by decide) (fun c_31 => ?_) (fun c_31 => ?_)
        · have hf := gx_it c_31 hf
          refine j_aload_n (pc := 37) g 0 dX2_giveOrder_37 rfl ?_
          refine gN_X2_0_0 (σ := σ) (pc := 38) g dX2_giveOrder_38 ?_
          refine j_iload_n (pc := 41) g 1 dX2_giveOrder_41 rfl ?_
          refine j_iload_n (pc := 42) g 2 dX2_giveOrder_42 rfl ?_
          obtain ⟨r43, h_43, hf⟩ := gx_bs hf
          refine cN_X2_X3_isOver_1 (σ := σ) (pc := 43) g (cX3_isOver_ (ad := (fun p => ad (p + 1))) h_43) ⟨Nat.le_of_ble_eq_true rfl, Nat.le_of_ble_eq_true rfl⟩ ⟨Nat.zero_le _, Nat.zero_le _⟩ (Nat.le_of_ble_eq_true rfl) dX2_giveOrder_43 ?_
          refine j_if_ne (tgt := 52) (pc := 46) g dX2_giveOrder_46 (by decide) (fun c_46 => ?_) (fun c_46 => ?_)
          · have hf := gx_if c_46 hf
            refine j_aload_n (pc := 52) g 0 dX2_giveOrder_52 rfl ?_
            refine gN_X2_0_1 (σ := σ) (pc := 53) g dX2_giveOrder_53 ?_
            refine gN_X2_2_3 (σ := σ) (pc := 56) g dX2_giveOrder_56 ?_
            refine j_bipush (v := 6) (pc := 59) g dX2_giveOrder_59 (by decide) ?_
            refine j_icmp_lt (tgt := 67) (pc := 61) g dX2_giveOrder_61 (by decide) (fun c_61 => ?_) (fun c_61 => ?_)
            · have hf := gx_it c_61 hf
              refine j_aload_n (pc := 67) g 0 dX2_giveOrder_67 rfl ?_
              refine gN_X2_0_1 (σ := σ) (pc := 68) g dX2_giveOrder_68 ?_
              refine j_iload_n (pc := 71) g 1 dX2_giveOrder_71 rfl ?_
              refine j_iload_n (pc := 72) g 2 dX2_giveOrder_72 rfl ?_
              refine j_iload_n (pc := 73) g 3 dX2_giveOrder_73 rfl ?_
              obtain ⟨r74, h_74, hf⟩ := gx_bs hf
              refine cN_X2_X4_add_2 (σ := σ) (pc := 74) g (cX4_add_ (ad := (fun p => ad (p + 7))) h_74) ⟨Nat.le_of_ble_eq_true rfl, Nat.le_of_ble_eq_true rfl⟩ ⟨Nat.zero_le _, Nat.zero_le _⟩ (Nat.le_of_ble_eq_true rfl) dX2_giveOrder_74 ?_
              exact hE _ _ _ _ hf dX2_giveOrder_77 rfl
            · have hf := gx_if c_61 hf
              refine j_bipush (v := -4) (pc := 64) g dX2_giveOrder_64 (by decide) ?_
              exact hE _ _ _ _ hf dX2_giveOrder_66 rfl
          · have hf := gx_it c_46 hf
            refine j_bipush (v := -3) (pc := 49) g dX2_giveOrder_49 (by decide) ?_
            exact hE _ _ _ _ hf dX2_giveOrder_51 rfl
        · have hf := gx_if c_31 hf
          refine j_bipush (v := -2) (pc := 34) g dX2_giveOrder_34 (by decide) ?_
          exact hE _ _ _ _ hf dX2_giveOrder_36 rfl
    · have hf := gx_it c_19 hf
      refine j_iconst (v := -1) (pc := 22) g dX2_giveOrder_22 (by decide) ?_
      exact hE _ _ _ _ hf dX2_giveOrder_23 rfl
theorem cN_X2_X3_nextOnWay_1 {D : va_G} {t : Nat → ClassId} {aa : gx_AA} {l : Launch} {R : Room} {cc : ByteArray} {nL : Nat} {J : gx_J} {ad : Nat → Nat} {rs : va_W} {k n pc : Nat} {L : List (Nat × Value)} {rest : List Value} (g : gx_G D t (gx_E0 aa) l R cc RX2 nL J) {σ : NS} {x0 x1 : Int32} {q : Int32} {fr lo : Nat} (hC : gx_C D t (gx_E0 aa) l yX3_nextOnWay cX3_nextOnWay 5 (some .int) fr lo [.ref (ad 1), .int x0, .int x1] (oC (fun p => ad (p + 1)) t σ.2.1 ++ (((ad 0, .inr (4, [.ref (ad 1), .ref (ad 7), .ref (ad 11), .int (os_f σ.1 3), .int (os_f σ.1 4), .int (os_f σ.1 5), .int (os_f σ.1 6)])) :: (dC (fun p => ad (p + 7)) t σ.2.2.1 ++ bC (fun p => ad (p + 11)) t σ.2.2.2)) ++ rs)) (oC (fun p => ad (p + 1)) t σ.2.1 ++ (((ad 0, .inr (4, [.ref (ad 1), .ref (ad 7), .ref (ad 11), .int (os_f σ.1 3), .int (os_f σ.1 4), .int (os_f σ.1 5), .int (os_f σ.1 6)])) :: (dC (fun p => ad (p + 7)) t σ.2.2.1 ++ bC (fun p => ad (p + 11)) t σ.2.2.2)) ++ rs)) (some (.int q))) (hR : fr + 1 ≤ R.frames ∧ 8 + (5 + 11) + lo ≤ R.locals) (hkn : k ≤ R.cells ∧ n ≤ R.slots) (hcat : (rest.map fun v => v.category).sum ≤ 8) (hd : decode cc pc = .ok (.invokevirtual 105, 3)) (kk : J k n (nC ad t σ ++ rs) (pc + 3) L (.int q :: rest)) : J k n (nC ad t σ ++ rs) pc L (.int x1 :: .int x0 :: .ref (ad 1) :: rest) := j_callVi (na := 2) (As := [.int x0, .int x1]) (q0 := 1) (ci := 5) g hC q_i_X3_nextOnWay q_s_X3_nextOnWay rfl rfl rfl q_c_X3_nextOnWay q_l_X2_105 q_n_X3 (by decide +kernel) rfl hR hkn hcat (pm_n1 ad t σ rs) ((pm_n1 ad t σ rs)).symm hd kk rfl
theorem gN_X2_1_1 {D : va_G} {t : Nat → ClassId} {aa : gx_AA} {l : Launch} {R : Room} {cc : ByteArray} {nL : Nat} {J : gx_J} {ad : Nat → Nat} {rs : va_W} {k n pc : Nat} {L : List (Nat × Value)} {st : List Value} (g : gx_G D t (gx_E0 aa) l R cc RX2 nL J) {σ : NS} (hd : decode cc pc = .ok (.getfield 112, 3)) (kk : J k n (nC ad t σ ++ rs) (pc + 3) L (.ref (ad 3) :: st)) : J k n (nC ad t σ ++ rs) pc L (.ref (ad 1) :: st) := j_get g in_X3 1 rfl rfl 1 (by decide) q_f_X2_112 rfl rfl hd kk
theorem lN_X2_1_1 {D : va_G} {t : Nat → ClassId} {aa : gx_AA} {l : Launch} {R : Room} {cc : ByteArray} {nL : Nat} {J : gx_J} {ad : Nat → Nat} {rs : va_W} {k n pc : Nat} {L : List (Nat × Value)} {st : List Value} (g : gx_G D t (gx_E0 aa) l R cc RX2 nL J) {σ : NS} {i : Int32} (hin : gx_in i 12) (hd : decode cc pc = .ok (.iaload, 1)) (kk : J k n (nC ad t σ ++ rs) (pc + 1) L (.int (os_a σ.2.1 1 i.toNatClampNeg) :: st)) : J k n (nC ad t σ ++ rs) pc L (.int i :: .ref (ad 3) :: st) := j_iald g 3 rfl hin hd kk
theorem gN_X2_2_2 {D : va_G} {t : Nat → ClassId} {aa : gx_AA} {l : Launch} {R : Room} {cc : ByteArray} {nL : Nat} {J : gx_J} {ad : Nat → Nat} {rs : va_W} {k n pc : Nat} {L : List (Nat × Value)} {st : List Value} (g : gx_G D t (gx_E0 aa) l R cc RX2 nL J) {σ : NS} (hd : decode cc pc = .ok (.getfield 115, 3)) (kk : J k n (nC ad t σ ++ rs) (pc + 3) L (.ref (ad 10) :: st)) : J k n (nC ad t σ ++ rs) pc L (.ref (ad 7) :: st) := j_get g in_X4 7 rfl rfl 2 (by decide) q_f_X2_115 rfl rfl hd kk
theorem lN_X2_2_2 {D : va_G} {t : Nat → ClassId} {aa : gx_AA} {l : Launch} {R : Room} {cc : ByteArray} {nL : Nat} {J : gx_J} {ad : Nat → Nat} {rs : va_W} {k n pc : Nat} {L : List (Nat × Value)} {st : List Value} (g : gx_G D t (gx_E0 aa) l R cc RX2 nL J) {σ : NS} {i : Int32} (hin : gx_in i 6) (hd : decode cc pc = .ok (.iaload, 1)) (kk : J k n (nC ad t σ ++ rs) (pc + 1) L (.int (os_a σ.2.2.1 2 i.toNatClampNeg) :: st)) : J k n (nC ad t σ ++ rs) pc L (.int i :: .ref (ad 10) :: st) := j_iald g 10 rfl hin hd kk
theorem sN_X2_2_0 {D : va_G} {t : Nat → ClassId} {aa : gx_AA} {l : Launch} {R : Room} {cc : ByteArray} {nL : Nat} {J : gx_J} {ad : Nat → Nat} {rs : va_W} {k n pc : Nat} {L : List (Nat × Value)} {st : List Value} (g : gx_G D t (gx_E0 aa) l R cc RX2 nL J) {σ : NS} {i x : Int32} (hin : gx_in i 6) (hd : decode cc pc = .ok (.iastore, 1)) (kk : J k n (nC ad t (σ.1, σ.2.1, os_sa σ.2.2.1 0 i.toNatClampNeg x, σ.2.2.2) ++ rs) (pc + 1) L st) : J k n (nC ad t σ ++ rs) pc L (.int x :: .int i :: .ref (ad 8) :: st) := j_iast (w' := nC ad t (σ.1, σ.2.1, os_sa σ.2.2.1 0 i.toNatClampNeg x, σ.2.2.2) ++ rs) g 8 rfl hin rfl hd kk
theorem cN_X2_X4_remove_2 {D : va_G} {t : Nat → ClassId} {aa : gx_AA} {l : Launch} {R : Room} {cc : ByteArray} {nL : Nat} {J : gx_J} {ad : Nat → Nat} {rs : va_W} {k n pc : Nat} {L : List (Nat × Value)} {rest : List Value} (g : gx_G D t (gx_E0 aa) l R cc RX2 nL J) {σ : NS} {x0 : Int32} {q : OS} {fr lo : Nat} (hC : gx_C D t (gx_E0 aa) l yX4_remove cX4_remove 3 none fr lo [.ref (ad 7), .int x0] (dC (fun p => ad (p + 7)) t σ.2.2.1 ++ (((ad 0, .inr (4, [.ref (ad 1), .ref (ad 7), .ref (ad 11), .int (os_f σ.1 3), .int (os_f σ.1 4), .int (os_f σ.1 5), .int (os_f σ.1 6)])) :: (oC (fun p => ad (p + 1)) t σ.2.1 ++ bC (fun p => ad (p + 11)) t σ.2.2.2)) ++ rs)) (dC (fun p => ad (p + 7)) t q ++ (((ad 0, .inr (4, [.ref (ad 1), .ref (ad 7), .ref (ad 11), .int (os_f σ.1 3), .int (os_f σ.1 4), .int (os_f σ.1 5), .int (os_f σ.1 6)])) :: (oC (fun p => ad (p + 1)) t σ.2.1 ++ bC (fun p => ad (p + 11)) t σ.2.2.2)) ++ rs)) none) (hR : fr + 1 ≤ R.frames ∧ 8 + (3 + 11) + lo ≤ R.locals) (hkn : k ≤ R.cells ∧ n ≤ R.slots) (hcat : (rest.map fun v => v.category).sum ≤ 8) (hd : decode cc pc = .ok (.invokevirtual 109, 3)) (kk : J k n (nC ad t (σ.1, σ.2.1, q, σ.2.2.2) ++ rs) (pc + 3) L (rest)) : J k n (nC ad t σ ++ rs) pc L (.int x0 :: .ref (ad 7) :: rest) := j_callVv (na := 1) (As := [.int x0]) (q0 := 7) (ci := 6) g hC q_i_X4_remove q_s_X4_remove rfl rfl rfl q_c_X4_remove q_l_X2_109 q_n_X4 (by decide +kernel) rfl hR hkn hcat (pm_n2 ad t σ rs) ((pm_n2 ad t (σ.1, σ.2.1, q, σ.2.2.2) rs)).symm hd kk rfl
theorem pN_X2_0_4 {D : va_G} {t : Nat → ClassId} {aa : gx_AA} {l : Launch} {R : Room} {cc : ByteArray} {nL : Nat} {J : gx_J} {ad : Nat → Nat} {rs : va_W} {k n pc : Nat} {L : List (Nat × Value)} {st : List Value} (g : gx_G D t (gx_E0 aa) l R cc RX2 nL J) {σ : NS} {v : Int32} (hd : decode cc pc = .ok (.putfield 46, 3)) (kk : J k n (nC ad t (os_sf σ.1 4 v, σ.2) ++ rs) (pc + 3) L st) : J k n (nC ad t σ ++ rs) pc L (.int v :: .ref (ad 0) :: st) := j_put (w' := nC ad t (os_sf σ.1 4 v, σ.2) ++ rs) g in_X2 0 rfl rfl 4 (by decide) q_f_X2_46 rfl tyX2 tyX2_ok nmX2 rfl (ty := .int) (by decide +kernel) rfl rfl (Nat.le_of_ble_eq_true rfl) rfl hd kk
theorem sN_X2_1_1 {D : va_G} {t : Nat → ClassId} {aa : gx_AA} {l : Launch} {R : Room} {cc : ByteArray} {nL : Nat} {J : gx_J} {ad : Nat → Nat} {rs : va_W} {k n pc : Nat} {L : List (Nat × Value)} {st : List Value} (g : gx_G D t (gx_E0 aa) l R cc RX2 nL J) {σ : NS} {i x : Int32} (hin : gx_in i 12) (hd : decode cc pc = .ok (.iastore, 1)) (kk : J k n (nC ad t (σ.1, os_sa σ.2.1 1 i.toNatClampNeg x, σ.2.2) ++ rs) (pc + 1) L st) : J k n (nC ad t σ ++ rs) pc L (.int x :: .int i :: .ref (ad 3) :: st) := j_iast (w' := nC ad t (σ.1, os_sa σ.2.1 1 i.toNatClampNeg x, σ.2.2) ++ rs) g 3 rfl hin rfl hd kk
theorem gN_X2_0_5 {D : va_G} {t : Nat → ClassId} {aa : gx_AA} {l : Launch} {R : Room} {cc : ByteArray} {nL : Nat} {J : gx_J} {ad : Nat → Nat} {rs : va_W} {k n pc : Nat} {L : List (Nat × Value)} {st : List Value} (g : gx_G D t (gx_E0 aa) l R cc RX2 nL J) {σ : NS} (hd : decode cc pc = .ok (.getfield 49, 3)) (kk : J k n (nC ad t σ ++ rs) (pc + 3) L (.int (os_f σ.1 5) :: st)) : J k n (nC ad t σ ++ rs) pc L (.ref (ad 0) :: st) := j_get g in_X2 0 rfl rfl 5 (by decide) q_f_X2_49 rfl rfl hd kk
theorem pN_X2_0_5 {D : va_G} {t : Nat → ClassId} {aa : gx_AA} {l : Launch} {R : Room} {cc : ByteArray} {nL : Nat} {J : gx_J} {ad : Nat → Nat} {rs : va_W} {k n pc : Nat} {L : List (Nat × Value)} {st : List Value} (g : gx_G D t (gx_E0 aa) l R cc RX2 nL J) {σ : NS} {v : Int32} (hd : decode cc pc = .ok (.putfield 49, 3)) (kk : J k n (nC ad t (os_sf σ.1 5 v, σ.2) ++ rs) (pc + 3) L st) : J k n (nC ad t σ ++ rs) pc L (.int v :: .ref (ad 0) :: st) := j_put (w' := nC ad t (os_sf σ.1 5 v, σ.2) ++ rs) g in_X2 0 rfl rfl 5 (by decide) q_f_X2_49 rfl tyX2 tyX2_ok nmX2 rfl (ty := .int) (by decide +kernel) rfl rfl (Nat.le_of_ble_eq_true rfl) rfl hd kk
theorem gN_X2_1_2 {D : va_G} {t : Nat → ClassId} {aa : gx_AA} {l : Launch} {R : Room} {cc : ByteArray} {nL : Nat} {J : gx_J} {ad : Nat → Nat} {rs : va_W} {k n pc : Nat} {L : List (Nat × Value)} {st : List Value} (g : gx_G D t (gx_E0 aa) l R cc RX2 nL J) {σ : NS} (hd : decode cc pc = .ok (.getfield 118, 3)) (kk : J k n (nC ad t σ ++ rs) (pc + 3) L (.ref (ad 4) :: st)) : J k n (nC ad t σ ++ rs) pc L (.ref (ad 1) :: st) := j_get g in_X3 1 rfl rfl 2 (by decide) q_f_X2_118 rfl rfl hd kk
theorem lN_X2_1_2 {D : va_G} {t : Nat → ClassId} {aa : gx_AA} {l : Launch} {R : Room} {cc : ByteArray} {nL : Nat} {J : gx_J} {ad : Nat → Nat} {rs : va_W} {k n pc : Nat} {L : List (Nat × Value)} {st : List Value} (g : gx_G D t (gx_E0 aa) l R cc RX2 nL J) {σ : NS} {i : Int32} (hin : gx_in i 12) (hd : decode cc pc = .ok (.iaload, 1)) (kk : J k n (nC ad t σ ++ rs) (pc + 1) L (.int (os_a σ.2.1 2 i.toNatClampNeg) :: st)) : J k n (nC ad t σ ++ rs) pc L (.int i :: .ref (ad 4) :: st) := j_iald g 4 rfl hin hd kk
theorem sN_X2_1_2 {D : va_G} {t : Nat → ClassId} {aa : gx_AA} {l : Launch} {R : Room} {cc : ByteArray} {nL : Nat} {J : gx_J} {ad : Nat → Nat} {rs : va_W} {k n pc : Nat} {L : List (Nat × Value)} {st : List Value} (g : gx_G D t (gx_E0 aa) l R cc RX2 nL J) {σ : NS} {i x : Int32} (hin : gx_in i 12) (hd : decode cc pc = .ok (.iastore, 1)) (kk : J k n (nC ad t (σ.1, os_sa σ.2.1 2 i.toNatClampNeg x, σ.2.2) ++ rs) (pc + 1) L st) : J k n (nC ad t σ ++ rs) pc L (.int x :: .int i :: .ref (ad 4) :: st) := j_iast (w' := nC ad t (σ.1, os_sa σ.2.1 2 i.toNatClampNeg x, σ.2.2) ++ rs) g 4 rfl hin rfl hd kk
theorem cN_X2_X3_remove_1 {D : va_G} {t : Nat → ClassId} {aa : gx_AA} {l : Launch} {R : Room} {cc : ByteArray} {nL : Nat} {J : gx_J} {ad : Nat → Nat} {rs : va_W} {k n pc : Nat} {L : List (Nat × Value)} {rest : List Value} (g : gx_G D t (gx_E0 aa) l R cc RX2 nL J) {σ : NS} {x0 : Int32} {q : OS} {fr lo : Nat} (hC : gx_C D t (gx_E0 aa) l yX3_remove cX3_remove 3 none fr lo [.ref (ad 1), .int x0] (oC (fun p => ad (p + 1)) t σ.2.1 ++ (((ad 0, .inr (4, [.ref (ad 1), .ref (ad 7), .ref (ad 11), .int (os_f σ.1 3), .int (os_f σ.1 4), .int (os_f σ.1 5), .int (os_f σ.1 6)])) :: (dC (fun p => ad (p + 7)) t σ.2.2.1 ++ bC (fun p => ad (p + 11)) t σ.2.2.2)) ++ rs)) (oC (fun p => ad (p + 1)) t q ++ (((ad 0, .inr (4, [.ref (ad 1), .ref (ad 7), .ref (ad 11), .int (os_f σ.1 3), .int (os_f σ.1 4), .int (os_f σ.1 5), .int (os_f σ.1 6)])) :: (dC (fun p => ad (p + 7)) t σ.2.2.1 ++ bC (fun p => ad (p + 11)) t σ.2.2.2)) ++ rs)) none) (hR : fr + 1 ≤ R.frames ∧ 8 + (3 + 11) + lo ≤ R.locals) (hkn : k ≤ R.cells ∧ n ≤ R.slots) (hcat : (rest.map fun v => v.category).sum ≤ 8) (hd : decode cc pc = .ok (.invokevirtual 126, 3)) (kk : J k n (nC ad t (σ.1, q, σ.2.2) ++ rs) (pc + 3) L (rest)) : J k n (nC ad t σ ++ rs) pc L (.int x0 :: .ref (ad 1) :: rest) := j_callVv (na := 1) (As := [.int x0]) (q0 := 1) (ci := 5) g hC q_i_X3_remove q_s_X3_remove rfl rfl rfl q_c_X3_remove q_l_X2_126 q_n_X3 (by decide +kernel) rfl hR hkn hcat (pm_n1 ad t σ rs) ((pm_n1 ad t (σ.1, q, σ.2.2) rs)).symm hd kk rfl
theorem gN_X2_0_6 {D : va_G} {t : Nat → ClassId} {aa : gx_AA} {l : Launch} {R : Room} {cc : ByteArray} {nL : Nat} {J : gx_J} {ad : Nat → Nat} {rs : va_W} {k n pc : Nat} {L : List (Nat × Value)} {st : List Value} (g : gx_G D t (gx_E0 aa) l R cc RX2 nL J) {σ : NS} (hd : decode cc pc = .ok (.getfield 52, 3)) (kk : J k n (nC ad t σ ++ rs) (pc + 3) L (.int (os_f σ.1 6) :: st)) : J k n (nC ad t σ ++ rs) pc L (.ref (ad 0) :: st) := j_get g in_X2 0 rfl rfl 6 (by decide) q_f_X2_52 rfl rfl hd kk
theorem pN_X2_0_6 {D : va_G} {t : Nat → ClassId} {aa : gx_AA} {l : Launch} {R : Room} {cc : ByteArray} {nL : Nat} {J : gx_J} {ad : Nat → Nat} {rs : va_W} {k n pc : Nat} {L : List (Nat × Value)} {st : List Value} (g : gx_G D t (gx_E0 aa) l R cc RX2 nL J) {σ : NS} {v : Int32} (hd : decode cc pc = .ok (.putfield 52, 3)) (kk : J k n (nC ad t (os_sf σ.1 6 v, σ.2) ++ rs) (pc + 3) L st) : J k n (nC ad t σ ++ rs) pc L (.int v :: .ref (ad 0) :: st) := j_put (w' := nC ad t (os_sf σ.1 6 v, σ.2) ++ rs) g in_X2 0 rfl rfl 6 (by decide) q_f_X2_52 rfl tyX2 tyX2_ok nmX2 rfl (ty := .int) (by decide +kernel) rfl rfl (Nat.le_of_ble_eq_true rfl) rfl hd kk
set_option maxRecDepth 100000 in
set_option maxHeartbeats 4000000 in
theorem tX2_discharge_18 {D : va_G} {t : Nat → ClassId} {aa : gx_AA} {l : Launch} {J : gx_J} {ad : Nat → Nat} {rs : va_W} {q : NS} (g : gx_G D t (gx_E0 aa) l ({ frames := 1, cells := 0, slots := 0, locals := 22 }) cX2_discharge RX2 3 J) (hE : ∀ (σ : NS) (pc : Nat) (L : List (Nat × Value)), some σ = some q → decode cX2_discharge pc = .ok (.return_, 1) → J 0 0 (nC ad t σ ++ rs) pc L [])  : ∀ (n : Nat) (σ : NS) (v1 : Int32) (v2 : Int32), fX2_discharge_18 n σ v1 v2 = some q → J 0 0 (nC ad t σ ++ rs) 18 [(0, .ref (ad 0)), (1, .int v1), (2, .int v2)] [] := by
  intro n
  induction n with
  | zero => intro σ v1 v2 hf; cases hf
  | succ n ih =>
    intro σ v1 v2 hf
    replace hf := (fX2_discharge_18_s n σ v1 v2).symm.trans hf
    refine j_iload_n (pc := 18) g 2 dX2_discharge_18 rfl ?_
    refine j_if_lt (tgt := 59) (pc := 19) g dX2_discharge_19 (by decide) (fun c_19 => ?_) (fun c_19 => ?_)
    · have hf := gx_it c_19 hf
      exact hE _ _ _ hf dX2_discharge_59
    · have hf := gx_if c_19 hf
      refine j_aload_n (pc := 22) g 0 dX2_discharge_22 rfl ?_
      refine gN_X2_0_1 (σ := σ) (pc := 23) g dX2_discharge_23 ?_
      refine gN_X2_2_0 (σ := σ) (pc := 26) g dX2_discharge_26 ?_
      refine j_iload_n (pc := 29) g 2 dX2_discharge_29 rfl ?_
      obtain ⟨h_30, hf⟩ := gx_ck hf
      refine lN_X2_2_0 (σ := σ) (pc := 30) g h_30 dX2_discharge_30 ?_
      refine j_iload_n (pc := 31) g 1 dX2_discharge_31 rfl ?_
      refine j_icmp_ne (tgt := 53) (pc := 32) g dX2_discharge_32 (by decide) (fun c_32 => ?_) (fun c_32 => ?_)
      · have hf := gx_if c_32 hf
        refine j_iinc (v := v2 + (-1)) (L' := [(2, .int (v2 + (-1))), (0, .ref (ad 0)), (1, .int v1)]) (pc := 53) g 2 dX2_discharge_53 rfl rfl (Nat.le_of_ble_eq_true rfl) rfl ?_
        refine j_goto (tgt := 18) (pc := 56) g dX2_discharge_56 (by decide) ?_
        refine j_sub (pc := 18) g [1, 2, 0] rfl ?_
        exact ih σ v1 (v2 + (-1)) hf
      · have hf := gx_it c_32 hf
        refine j_aload_n (pc := 35) g 0 dX2_discharge_35 rfl ?_
        refine gN_X2_0_1 (σ := σ) (pc := 36) g dX2_discharge_36 ?_
        refine j_iload_n (pc := 39) g 2 dX2_discharge_39 rfl ?_
        obtain ⟨r40, h_40, hf⟩ := gx_bs hf
        refine cN_X2_X4_remove_2 (σ := σ) (pc := 40) g (cX4_remove_ (ad := (fun p => ad (p + 7))) h_40) ⟨Nat.le_of_ble_eq_true rfl, Nat.le_of_ble_eq_true rfl⟩ ⟨Nat.zero_le _, Nat.zero_le _⟩ (Nat.le_of_ble_eq_true rfl) dX2_discharge_40 ?_
        refine j_aload_n (pc := 43) g 0 dX2_discharge_43 rfl ?_
        refine j_dup (pc := 44) g dX2_discharge_44 rfl ?_
        refine gN_X2_0_6 (σ := (σ.1, σ.2.1, r40, σ.2.2.2)) (pc := 45) g dX2_discharge_45 ?_
        refine j_iconst (v := 1) (pc := 48) g dX2_discharge_48 (by decide) ?_
        refine j_iadd (pc := 49) g dX2_discharge_49 ?_
        refine pN_X2_0_6 (σ := (σ.1, σ.2.1, r40, σ.2.2.2)) (pc := 50) g dX2_discharge_50 ?_
        refine j_iinc (v := v2 + (-1)) (L' := [(2, .int (v2 + (-1))), (0, .ref (ad 0)), (1, .int v1)]) (pc := 53) g 2 dX2_discharge_53 rfl rfl (Nat.le_of_ble_eq_true rfl) rfl ?_
        refine j_goto (tgt := 18) (pc := 56) g dX2_discharge_56 (by decide) ?_
        refine j_sub (pc := 18) g [1, 2, 0] rfl ?_
        exact ih (os_sf σ.1 6 ((os_f σ.1 6) + (1 : Int32)), (σ.2.1, r40, σ.2.2.2)) v1 (v2 + (-1)) hf
set_option maxRecDepth 100000 in
set_option maxHeartbeats 4000000 in
theorem cX2_discharge_ {D : va_G} {t : Nat → ClassId} {aa : gx_AA} {l : Launch} {ad : Nat → Nat} {rs : va_W} {σ : NS} {p1 : Int32} {q : NS} (hf : fX2_discharge σ p1 = some q) : gx_C D t (gx_E0 aa) l yX2_discharge cX2_discharge 3 none 1 22 [.ref (ad 0), .int p1] (nC ad t σ ++ rs) (nC ad t q ++ rs) none := by
  refine gx_intro_v (by decide) (Nat.le_of_ble_eq_true rfl) (fun J g hE0 => ?_)
  have hE : ∀ (σ : NS) (pc : Nat) (L : List (Nat × Value)), some σ = some q → decode cX2_discharge pc = .ok (.return_, 1) → J 0 0 (nC ad t σ ++ rs) pc L [] := fun σ pc L h h1 => by cases h; exact hE0 pc L h1
  unfold fX2_discharge at hf
  show J 0 0 (nC ad t σ ++ rs) 0 [(0, .ref (ad 0)), (1, .int p1)] []
  refine j_aload_n (pc := 0) g 0 dX2_discharge_0 rfl ?_
  refine gN_X2_0_0 (σ := σ) (pc := 1) g dX2_discharge_1 ?_
  refine j_iload_n (pc := 4) g 1 dX2_discharge_4 rfl ?_
  obtain ⟨r5, h_5, hf⟩ := gx_bs hf
  refine cN_X2_X3_remove_1 (σ := σ) (pc := 5) g (cX3_remove_ (ad := (fun p => ad (p + 1))) h_5) ⟨Nat.le_of_ble_eq_true rfl, Nat.le_of_ble_eq_true rfl⟩ ⟨Nat.zero_le _, Nat.zero_le _⟩ (Nat.le_of_ble_eq_true rfl) dX2_discharge_5 ?_
  refine j_aload_n (pc := 8) g 0 dX2_discharge_8 rfl ?_
  refine gN_X2_0_1 (σ := (σ.1, r5, σ.2.2)) (pc := 9) g dX2_discharge_9 ?_
  refine gN_X2_2_3 (σ := (σ.1, r5, σ.2.2)) (pc := 12) g dX2_discharge_12 ?_
  refine j_iconst (v := 1) (pc := 15) g dX2_discharge_15 (by decide) ?_
  refine j_isub (pc := 16) g dX2_discharge_16 ?_
  refine j_istore_n (L' := [(2, .int ((os_f σ.2.2.1 3) - (1 : Int32))), (0, .ref (ad 0)), (1, .int p1)]) (pc := 17) g dX2_discharge_17 rfl (Nat.le_of_ble_eq_true rfl) rfl ?_
  refine j_sub (pc := 18) g [1, 2, 0] rfl ?_
  exact tX2_discharge_18 g hE 2000 (σ.1, r5, σ.2.2) p1 ((os_f σ.2.2.1 3) - (1 : Int32)) hf
theorem cOX_X3_X6_addNumber_1 {D : va_G} {t : Nat → ClassId} {aa : gx_AA} {l : Launch} {R : Room} {cc : ByteArray} {nL : Nat} {J : gx_J} {ad bd : Nat → Nat} {rs : va_W} {k n pc : Nat} {L : List (Nat × Value)} {rest : List Value} (g : gx_G D t (gx_E0 aa) l R cc RX3 nL J) {σ : (OS × OS)} {x0 : Int32} {q : OS} {fr lo : Nat} (hC : gx_C D t (gx_E0 aa) l yX6_addNumber cX6_addNumber 2 none fr lo [.ref (bd 0), .int x0] (xC bd t σ.2 ++ (oC ad t σ.1 ++ rs)) (xC bd t q ++ (oC ad t σ.1 ++ rs)) none) (hR : fr + 1 ≤ R.frames ∧ 8 + (2 + 11) + lo ≤ R.locals) (hkn : k ≤ R.cells ∧ n ≤ R.slots) (hcat : (rest.map fun v => v.category).sum ≤ 8) (hd : decode cc pc = .ok (.invokevirtual 46, 3)) (kk : J k n (oC ad t σ.1 ++ (xC bd t q ++ rs)) (pc + 3) L (rest)) : J k n (oC ad t σ.1 ++ (xC bd t σ.2 ++ rs)) pc L (.int x0 :: .ref (bd 0) :: rest) := j_callVv (na := 1) (As := [.int x0]) (q0 := 6) (ci := 8) g hC q_i_X6_addNumber q_s_X6_addNumber rfl rfl rfl q_c_X6_addNumber q_l_X3_46 q_n_X6 (by decide +kernel) rfl hR hkn hcat (pm_x (oC ad t σ.1) (xC bd t σ.2) rs) ((pm_x (oC ad t σ.1) (xC bd t q) rs)).symm hd kk rfl
theorem gOX_X3_0_5 {D : va_G} {t : Nat → ClassId} {aa : gx_AA} {l : Launch} {R : Room} {cc : ByteArray} {nL : Nat} {J : gx_J} {ad bd : Nat → Nat} {rs : va_W} {k n pc : Nat} {L : List (Nat × Value)} {st : List Value} (g : gx_G D t (gx_E0 aa) l R cc RX3 nL J) {σ : (OS × OS)} (hd : decode cc pc = .ok (.getfield 28, 3)) (kk : J k n (oC ad t σ.1 ++ (xC bd t σ.2 ++ rs)) (pc + 3) L (.int (os_f σ.1 5) :: st)) : J k n (oC ad t σ.1 ++ (xC bd t σ.2 ++ rs)) pc L (.ref (ad 0) :: st) := j_get g in_X3 0 rfl rfl 5 (by decide) q_f_X3_28 rfl rfl hd kk
theorem cOX_X3_X6_add_1 {D : va_G} {t : Nat → ClassId} {aa : gx_AA} {l : Launch} {R : Room} {cc : ByteArray} {nL : Nat} {J : gx_J} {ad bd : Nat → Nat} {rs : va_W} {k n pc : Nat} {L : List (Nat × Value)} {rest : List Value} (g : gx_G D t (gx_E0 aa) l R cc RX3 nL J) {σ : (OS × OS)} {x0 : Int32} {q : (Int32 × OS)} {fr lo : Nat} (hC : gx_C D t (gx_E0 aa) l yX6_add cX6_add 2 (some .boolean) fr lo [.ref (bd 0), .int x0] (xC bd t σ.2 ++ (oC ad t σ.1 ++ rs)) (xC bd t q.2 ++ (oC ad t σ.1 ++ rs)) (some (.int q.1))) (hR : fr + 1 ≤ R.frames ∧ 8 + (2 + 11) + lo ≤ R.locals) (hkn : k ≤ R.cells ∧ n ≤ R.slots) (hcat : (rest.map fun v => v.category).sum ≤ 8) (hd : decode cc pc = .ok (.invokevirtual 52, 3)) (kk : J k n (oC ad t σ.1 ++ (xC bd t q.2 ++ rs)) (pc + 3) L (.int q.1 :: rest)) : J k n (oC ad t σ.1 ++ (xC bd t σ.2 ++ rs)) pc L (.int x0 :: .ref (bd 0) :: rest) := j_callVi (na := 1) (As := [.int x0]) (q0 := 6) (ci := 8) g hC q_i_X6_add q_s_X6_add rfl rfl rfl q_c_X6_add q_l_X3_52 q_n_X6 (by decide +kernel) rfl hR hkn hcat (pm_x (oC ad t σ.1) (xC bd t σ.2) rs) ((pm_x (oC ad t σ.1) (xC bd t q.2) rs)).symm hd kk rfl
theorem gOX_X3_0_3 {D : va_G} {t : Nat → ClassId} {aa : gx_AA} {l : Launch} {R : Room} {cc : ByteArray} {nL : Nat} {J : gx_J} {ad bd : Nat → Nat} {rs : va_W} {k n pc : Nat} {L : List (Nat × Value)} {st : List Value} (g : gx_G D t (gx_E0 aa) l R cc RX3 nL J) {σ : (OS × OS)} (hd : decode cc pc = .ok (.getfield 21, 3)) (kk : J k n (oC ad t σ.1 ++ (xC bd t σ.2 ++ rs)) (pc + 3) L (.ref (ad 4) :: st)) : J k n (oC ad t σ.1 ++ (xC bd t σ.2 ++ rs)) pc L (.ref (ad 0) :: st) := j_get g in_X3 0 rfl rfl 3 (by decide) q_f_X3_21 rfl rfl hd kk
theorem lOX_X3_0_3 {D : va_G} {t : Nat → ClassId} {aa : gx_AA} {l : Launch} {R : Room} {cc : ByteArray} {nL : Nat} {J : gx_J} {ad bd : Nat → Nat} {rs : va_W} {k n pc : Nat} {L : List (Nat × Value)} {st : List Value} (g : gx_G D t (gx_E0 aa) l R cc RX3 nL J) {σ : (OS × OS)} {i : Int32} (hin : gx_in i 12) (hd : decode cc pc = .ok (.iaload, 1)) (kk : J k n (oC ad t σ.1 ++ (xC bd t σ.2 ++ rs)) (pc + 1) L (.int (os_a σ.1 3 i.toNatClampNeg) :: st)) : J k n (oC ad t σ.1 ++ (xC bd t σ.2 ++ rs)) pc L (.int i :: .ref (ad 4) :: st) := j_iald g 4 rfl hin hd kk
theorem cOX_X3_X3_write_0_1 {D : va_G} {t : Nat → ClassId} {aa : gx_AA} {l : Launch} {R : Room} {cc : ByteArray} {nL : Nat} {J : gx_J} {ad bd : Nat → Nat} {rs : va_W} {k n pc : Nat} {L : List (Nat × Value)} {rest : List Value} (g : gx_G D t (gx_E0 aa) l R cc RX3 nL J) {σ : (OS × OS)} {x0 x1 : Int32} {q : (OS × OS)} {fr lo : Nat} (hC : gx_C D t (gx_E0 aa) l yX3_write cX3_write 6 none fr lo [.ref (ad 0), .int x0, .int x1, .ref (bd 0)] (oC ad t σ.1 ++ (xC bd t σ.2 ++ rs)) (oC ad t q.1 ++ (xC bd t q.2 ++ rs)) none) (hR : fr + 1 ≤ R.frames ∧ 8 + (6 + 11) + lo ≤ R.locals) (hkn : k ≤ R.cells ∧ n ≤ R.slots) (hcat : (rest.map fun v => v.category).sum ≤ 8) (hd : decode cc pc = .ok (.invokestatic 56, 3)) (kk : J k n (oC ad t q.1 ++ (xC bd t q.2 ++ rs)) (pc + 3) L (rest)) : J k n (oC ad t σ.1 ++ (xC bd t σ.2 ++ rs)) pc L (.ref (bd 0) :: .int x1 :: .int x0 :: .ref (ad 0) :: rest) := j_callSv (na := 4) (As := [.ref (ad 0), .int x0, .int x1, .ref (bd 0)]) g hC q_t_X3_write q_c_X3_write q_l_X3_56 q_n_X3 (by decide +kernel) rfl hR hkn hcat (.refl _) (.refl _) hd kk rfl
set_option maxRecDepth 100000 in
set_option maxHeartbeats 4000000 in
theorem tX3_write_73 {D : va_G} {t : Nat → ClassId} {aa : gx_AA} {l : Launch} {J : gx_J} {ad bd : Nat → Nat} {rs : va_W} {dd : Nat} {rec : (OS × OS) → Int32 → Int32 → Option (OS × OS)} {q : (OS × OS)} (g : gx_G D t (gx_E0 aa) l ({ frames := dd + 1 + 2, cells := 0, slots := 0, locals := (dd + 1) * 25 + 42 }) cX3_write RX3 6 J) (hE : ∀ (σ : (OS × OS)) (pc : Nat) (L : List (Nat × Value)), some σ = some q → decode cX3_write pc = .ok (.return_, 1) → J 0 0 (oC ad t σ.1 ++ (xC bd t σ.2 ++ rs)) pc L []) (hrec : ∀ {σ : (OS × OS)} {p1 p2 : Int32} {q : (OS × OS)}, rec σ p1 p2 = some q → gx_C D t (gx_E0 aa) l yX3_write cX3_write 6 none (dd + 2) (dd * 25 + 42) [.ref (ad 0), .int p1, .int p2, .ref (bd 0)] (oC ad t σ.1 ++ (xC bd t σ.2 ++ rs)) (oC ad t q.1 ++ (xC bd t q.2 ++ rs)) none)  : ∀ (σ : (OS × OS)) (v4 : Int32), fX3_write_73 rec σ v4 = some q → J 0 0 (oC ad t σ.1 ++ (xC bd t σ.2 ++ rs)) 73 [(3, .ref (bd 0)), (4, .int v4)] [] := by
  intro σ v4 hf
  unfold fX3_write_73 at hf
  refine j_iload (pc := 73) g 1 dX3_write_73 rfl ?_
  refine j_if_eq (tgt := 85) (pc := 75) g dX3_write_75 (by decide) (fun c_75 => ?_) (fun c_75 => ?_)
  · have hf := gx_it c_75 hf
    exact hE _ _ _ hf dX3_write_85
  · have hf := gx_if c_75 hf
    refine j_aload_n (pc := 78) g 0 dX3_write_78 rfl ?_
    refine j_bipush (v := 41) (pc := 79) g dX3_write_79 (by decide) ?_
    obtain ⟨r81, h_81, hf⟩ := gx_bs hf
    refine cOX_X3_X6_add_1 (σ := σ) (pc := 81) g (cX6_add_ (ad := bd) h_81) ⟨Nat.le_of_ble_eq_true rfl, Nat.le_of_ble_eq_true rfl⟩ ⟨Nat.zero_le _, Nat.zero_le _⟩ (Nat.le_of_ble_eq_true rfl) dX3_write_81 ?_
    refine j_pop (pc := 84) g dX3_write_84 rfl ?_
    exact hE _ _ _ hf dX3_write_85
set_option maxRecDepth 100000 in
set_option maxHeartbeats 4000000 in
theorem tX3_write_11 {D : va_G} {t : Nat → ClassId} {aa : gx_AA} {l : Launch} {J : gx_J} {ad bd : Nat → Nat} {rs : va_W} {dd : Nat} {rec : (OS × OS) → Int32 → Int32 → Option (OS × OS)} {q : (OS × OS)} (g : gx_G D t (gx_E0 aa) l ({ frames := dd + 1 + 2, cells := 0, slots := 0, locals := (dd + 1) * 25 + 42 }) cX3_write RX3 6 J) (hE : ∀ (σ : (OS × OS)) (pc : Nat) (L : List (Nat × Value)), some σ = some q → decode cX3_write pc = .ok (.return_, 1) → J 0 0 (oC ad t σ.1 ++ (xC bd t σ.2 ++ rs)) pc L []) (hrec : ∀ {σ : (OS × OS)} {p1 p2 : Int32} {q : (OS × OS)}, rec σ p1 p2 = some q → gx_C D t (gx_E0 aa) l yX3_write cX3_write 6 none (dd + 2) (dd * 25 + 42) [.ref (ad 0), .int p1, .int p2, .ref (bd 0)] (oC ad t σ.1 ++ (xC bd t σ.2 ++ rs)) (oC ad t q.1 ++ (xC bd t q.2 ++ rs)) none)  : ∀ (n : Nat) (σ : (OS × OS)) (v1 : Int32) (v2 : Int32) (v4 : Int32) (v5 : Int32), fX3_write_11 rec n σ v1 v2 v4 v5 = some q → J 0 0 (oC ad t σ.1 ++ (xC bd t σ.2 ++ rs)) 11 [(0, .ref (ad 0)), (1, .int v1), (2, .int v2), (3, .ref (bd 0)), (4, .int v4), (5, .int v5)] [] := by
  intro n
  induction n with
  | zero => intro σ v1 v2 v4 v5 hf; cases hf
  | succ n ih =>
    intro σ v1 v2 v4 v5 hf
    replace hf := (fX3_write_11_s rec n σ v1 v2 v4 v5).symm.trans hf
    refine j_iload (pc := 11) g 5 dX3_write_11 rfl ?_
    refine j_aload_n (pc := 13) g 0 dX3_write_13 rfl ?_
    refine gOX_X3_0_5 (σ := σ) (pc := 14) g dX3_write_14 ?_
    refine j_icmp_ge (tgt := 73) (pc := 17) g dX3_write_17 (by decide) (fun c_17 => ?_) (fun c_17 => ?_)
    · have hf := gx_it c_17 hf
      refine j_sub (pc := 73) g [3, 4] rfl ?_
      exact tX3_write_73 g hE hrec σ v4 hf
    · have hf := gx_if c_17 hf
      refine j_iload_n (pc := 20) g 2 dX3_write_20 rfl ?_
      refine j_bipush (v := 12) (pc := 21) g dX3_write_21 (by decide) ?_
      refine j_icmp_ge (tgt := 73) (pc := 23) g dX3_write_23 (by decide) (fun c_23 => ?_) (fun c_23 => ?_)
      · have hf := gx_it c_23 hf
        refine j_sub (pc := 73) g [3, 4] rfl ?_
        exact tX3_write_73 g hE hrec σ v4 hf
      · have hf := gx_if c_23 hf
        refine j_aload_n (pc := 26) g 0 dX3_write_26 rfl ?_
        refine gOX_X3_0_3 (σ := σ) (pc := 27) g dX3_write_27 ?_
        refine j_iload (pc := 30) g 5 dX3_write_30 rfl ?_
        obtain ⟨h_32, hf⟩ := gx_ck hf
        refine lOX_X3_0_3 (σ := σ) (pc := 32) g h_32 dX3_write_32 ?_
        refine j_iload_n (pc := 33) g 1 dX3_write_33 rfl ?_
        refine j_icmp_ne (tgt := 67) (pc := 34) g dX3_write_34 (by decide) (fun c_34 => ?_) (fun c_34 => ?_)
        · have hf := gx_if c_34 hf
          refine j_iinc (v := v5 + 1) (L' := [(5, .int (v5 + 1)), (0, .ref (ad 0)), (1, .int v1), (2, .int v2), (3, .ref (bd 0)), (4, .int v4)]) (pc := 67) g 5 dX3_write_67 rfl rfl (Nat.le_of_ble_eq_true rfl) rfl ?_
          refine j_goto (tgt := 11) (pc := 70) g dX3_write_70 (by decide) ?_
          refine j_sub (pc := 11) g [1, 2, 3, 4, 5, 0] rfl ?_
          exact ih σ v1 v2 v4 (v5 + 1) hf
        · have hf := gx_it c_34 hf
          refine j_aload_n (pc := 37) g 3 dX3_write_37 rfl ?_
          refine j_iload (pc := 38) g 4 dX3_write_38 rfl ?_
          refine j_if_eq (tgt := 48) (pc := 40) g dX3_write_40 (by decide) (fun c_40 => ?_) (fun c_40 => ?_)
          · have hf := gx_it c_40 hf
            refine j_bipush (v := 40) (pc := 48) g dX3_write_48 (by decide) ?_
            obtain ⟨r50, h_50, hf⟩ := gx_bs hf
            refine cOX_X3_X6_add_1 (σ := σ) (pc := 50) g (cX6_add_ (ad := bd) h_50) ⟨Nat.le_of_ble_eq_true rfl, Nat.le_of_ble_eq_true rfl⟩ ⟨Nat.zero_le _, Nat.zero_le _⟩ (Nat.le_of_ble_eq_true rfl) dX3_write_50 ?_
            refine j_pop (pc := 53) g dX3_write_53 rfl ?_
            refine j_iconst (v := 1) (pc := 54) g dX3_write_54 (by decide) ?_
            refine j_istore (L' := [(4, .int (1 : Int32)), (0, .ref (ad 0)), (1, .int v1), (2, .int v2), (3, .ref (bd 0)), (5, .int v5)]) (pc := 55) g dX3_write_55 (Nat.le_of_ble_eq_true rfl) rfl ?_
            refine j_aload_n (pc := 57) g 1 dX3_write_57 rfl ?_
            refine j_iload (pc := 58) g 5 dX3_write_58 rfl ?_
            refine j_iload_n (pc := 60) g 3 dX3_write_60 rfl ?_
            refine j_iconst (v := 1) (pc := 61) g dX3_write_61 (by decide) ?_
            refine j_iadd (pc := 62) g dX3_write_62 ?_
            refine j_aload_n (pc := 63) g 4 dX3_write_63 rfl ?_
            obtain ⟨r64, h_64, hf⟩ := gx_bs hf
            refine cOX_X3_X3_write_0_1 (σ := (σ.1, r50.2)) (pc := 64) g (hrec h_64) ⟨(by omega : _ + 2 + 1 ≤ _ + 1 + 2), (by omega : 8 + (6 + 11) + (_ * 25 + 42) ≤ (_ + 1) * 25 + 42)⟩ ⟨Nat.zero_le _, Nat.zero_le _⟩ (Nat.le_of_ble_eq_true rfl) dX3_write_64 ?_
            refine j_iinc (v := v5 + 1) (L' := [(5, .int (v5 + 1)), (4, .int (1 : Int32)), (0, .ref (ad 0)), (1, .int v1), (2, .int v2), (3, .ref (bd 0))]) (pc := 67) g 5 dX3_write_67 rfl rfl (Nat.le_of_ble_eq_true rfl) rfl ?_
            refine j_goto (tgt := 11) (pc := 70) g dX3_write_70 (by decide) ?_
            refine j_sub (pc := 11) g [2, 3, 4, 5, 1, 0] rfl ?_
            exact ih r64 v1 v2 (1 : Int32) (v5 + 1) hf
          · have hf := gx_if c_40 hf
            refine j_bipush (v := 44) (pc := 43) g dX3_write_43 (by decide) ?_
            refine j_goto (tgt := 50) (pc := 45) g dX3_write_45 (by decide) ?_
            obtain ⟨r50, h_50, hf⟩ := gx_bs hf
            refine cOX_X3_X6_add_1 (σ := σ) (pc := 50) g (cX6_add_ (ad := bd) h_50) ⟨Nat.le_of_ble_eq_true rfl, Nat.le_of_ble_eq_true rfl⟩ ⟨Nat.zero_le _, Nat.zero_le _⟩ (Nat.le_of_ble_eq_true rfl) dX3_write_50 ?_
            refine j_pop (pc := 53) g dX3_write_53 rfl ?_
            refine j_iconst (v := 1) (pc := 54) g dX3_write_54 (by decide) ?_
            refine j_istore (L' := [(4, .int (1 : Int32)), (0, .ref (ad 0)), (1, .int v1), (2, .int v2), (3, .ref (bd 0)), (5, .int v5)]) (pc := 55) g dX3_write_55 (Nat.le_of_ble_eq_true rfl) rfl ?_
            refine j_aload_n (pc := 57) g 1 dX3_write_57 rfl ?_
            refine j_iload (pc := 58) g 5 dX3_write_58 rfl ?_
            refine j_iload_n (pc := 60) g 3 dX3_write_60 rfl ?_
            refine j_iconst (v := 1) (pc := 61) g dX3_write_61 (by decide) ?_
            refine j_iadd (pc := 62) g dX3_write_62 ?_
            refine j_aload_n (pc := 63) g 4 dX3_write_63 rfl ?_
            obtain ⟨r64, h_64, hf⟩ := gx_bs hf
            refine cOX_X3_X3_write_0_1 (σ := (σ.1, r50.2)) (pc := 64) g (hrec h_64) ⟨(by omega : _ + 2 + 1 ≤ _ + 1 + 2), (by omega : 8 + (6 + 11) + (_ * 25 + 42) ≤ (_ + 1) * 25 + 42)⟩ ⟨Nat.zero_le _, Nat.zero_le _⟩ (Nat.le_of_ble_eq_true rfl) dX3_write_64 ?_
            refine j_iinc (v := v5 + 1) (L' := [(5, .int (v5 + 1)), (4, .int (1 : Int32)), (0, .ref (ad 0)), (1, .int v1), (2, .int v2), (3, .ref (bd 0))]) (pc := 67) g 5 dX3_write_67 rfl rfl (Nat.le_of_ble_eq_true rfl) rfl ?_
            refine j_goto (tgt := 11) (pc := 70) g dX3_write_70 (by decide) ?_
            refine j_sub (pc := 11) g [2, 3, 4, 5, 1, 0] rfl ?_
            exact ih r64 v1 v2 (1 : Int32) (v5 + 1) hf
set_option maxRecDepth 100000 in
set_option maxHeartbeats 4000000 in
theorem cX3_write_ {D : va_G} {t : Nat → ClassId} {aa : gx_AA} {l : Launch} {ad bd : Nat → Nat} {rs : va_W} : ∀ (d : Nat) {σ : (OS × OS)} {p1 p2 : Int32} {q : (OS × OS)}, fX3_write d σ p1 p2 = some q → gx_C D t (gx_E0 aa) l yX3_write cX3_write 6 none (d + 2) (d * 25 + 42) [.ref (ad 0), .int p1, .int p2, .ref (bd 0)] (oC ad t σ.1 ++ (xC bd t σ.2 ++ rs)) (oC ad t q.1 ++ (xC bd t q.2 ++ rs)) none := by
  intro d
  induction d with
  | zero => intro σ p1 p2 q hf; cases hf
  | succ n ih =>
    intro σ p1 p2 q hf
    replace hf := (fX3_write_s n σ p1 p2).symm.trans hf
    refine gx_intro_v (by decide) (Nat.le_of_ble_eq_true rfl) (fun J g hE0 => ?_)
    replace g : gx_G D t (gx_E0 aa) l ({ frames := n + 1 + 2, cells := 0, slots := 0, locals := (n + 1) * 25 + 42 }) cX3_write RX3 6 J := g
    have hE : ∀ (σ : (OS × OS)) (pc : Nat) (L : List (Nat × Value)), some σ = some q → decode cX3_write pc = .ok (.return_, 1) → J 0 0 (oC ad t σ.1 ++ (xC bd t σ.2 ++ rs)) pc L [] := fun σ pc L h h1 => by cases h; exact hE0 pc L h1
    show J 0 0 (oC ad t σ.1 ++ (xC bd t σ.2 ++ rs)) 0 [(0, .ref (ad 0)), (1, .int p1), (2, .int p2), (3, .ref (bd 0))] []
    refine j_aload_n (pc := 0) g 3 dX3_write_0 rfl ?_
    refine j_iload_n (pc := 1) g 1 dX3_write_1 rfl ?_
    obtain ⟨r2, h_2, hf⟩ := gx_bs hf
    refine cOX_X3_X6_addNumber_1 (σ := σ) (pc := 2) g (cX6_addNumber_ (ad := bd) h_2) ⟨Nat.le_of_ble_eq_true rfl, Nat.le_of_ble_eq_true rfl⟩ ⟨Nat.zero_le _, Nat.zero_le _⟩ (Nat.le_of_ble_eq_true rfl) dX3_write_2 ?_
    refine j_iconst (v := 0) (pc := 5) g dX3_write_5 (by decide) ?_
    refine j_istore (L' := [(4, .int (0 : Int32)), (0, .ref (ad 0)), (1, .int p1), (2, .int p2), (3, .ref (bd 0))]) (pc := 6) g dX3_write_6 (Nat.le_of_ble_eq_true rfl) rfl ?_
    refine j_iconst (v := 0) (pc := 8) g dX3_write_8 (by decide) ?_
    refine j_istore (L' := [(5, .int (0 : Int32)), (4, .int (0 : Int32)), (0, .ref (ad 0)), (1, .int p1), (2, .int p2), (3, .ref (bd 0))]) (pc := 9) g dX3_write_9 (Nat.le_of_ble_eq_true rfl) rfl ?_
    refine j_sub (pc := 11) g [2, 3, 4, 5, 1, 0] rfl ?_
    exact tX3_write_11 g hE ih 2000 (σ.1, r2) p1 p2 (0 : Int32) (0 : Int32) hf

set_option maxRecDepth 100000 in
set_option maxHeartbeats 4000000 in
theorem tX3_countCommand_4 {D : va_G} {t : Nat → ClassId} {aa : gx_AA} {l : Launch} {J : gx_J} {ad : Nat → Nat} {rs : va_W} {σ : OS} {q : Int32} (g : gx_G D t (gx_E0 aa) l ({ frames := 2, cells := 0, slots := 0, locals := 46 }) cX3_countCommand RX3 4 J) (hE : ∀ (v : Int32) (pc : Nat) (L : List (Nat × Value)), some v = some q → decode cX3_countCommand pc = .ok (.ireturn, 1) → narrow .int (.int v) = .int v → J 0 0 (oC ad t σ ++ rs) pc L [.int v])  : ∀ (n : Nat) (v1 : Int32) (v2 : Int32) (v3 : Int32), fX3_countCommand_4 σ n v1 v2 v3 = some q → J 0 0 (oC ad t σ ++ rs) 4 [(0, .ref (ad 0)), (1, .int v1), (2, .int v2), (3, .int v3)] [] := by
  intro n
  induction n with
  | zero => intro v1 v2 v3 hf; cases hf
  | succ n ih =>
    intro v1 v2 v3 hf
    replace hf := (fX3_countCommand_4_s σ n v1 v2 v3).symm.trans hf
    refine j_iload_n (pc := 4) g 3 dX3_countCommand_4 rfl ?_
    refine j_aload_n (pc := 5) g 0 dX3_countCommand_5 rfl ?_
    refine gO_X3_0_5 (σ := σ) (pc := 6) g dX3_countCommand_6 ?_
    refine j_icmp_ge (tgt := 39) (pc := 9) g dX3_countCommand_9 (by decide) (fun c_9 => ?_) (fun c_9 => ?_)
    · have hf := gx_it c_9 hf
      refine j_iload_n (pc := 39) g 2 dX3_countCommand_39 rfl ?_
      exact hE _ _ _ hf dX3_countCommand_40 rfl
    · have hf := gx_if c_9 hf
      refine j_aload_n (pc := 12) g 0 dX3_countCommand_12 rfl ?_
      refine gO_X3_0_4 (σ := σ) (pc := 13) g dX3_countCommand_13 ?_
      refine j_iload_n (pc := 16) g 3 dX3_countCommand_16 rfl ?_
      obtain ⟨h_17, hf⟩ := gx_ck hf
      refine lO_X3_0_4 (σ := σ) (pc := 17) g h_17 dX3_countCommand_17 ?_
      refine j_if_eq (tgt := 33) (pc := 18) g dX3_countCommand_18 (by decide) (fun c_18 => ?_) (fun c_18 => ?_)
      · have hf := gx_it c_18 hf
        refine j_iinc (v := v3 + 1) (L' := [(3, .int (v3 + 1)), (0, .ref (ad 0)), (1, .int v1), (2, .int v2)]) (pc := 33) g 3 dX3_countCommand_33 rfl rfl (Nat.le_of_ble_eq_true rfl) rfl ?_
        refine j_goto (tgt := 4) (pc := 36) g dX3_countCommand_36 (by decide) ?_
        refine j_sub (pc := 4) g [1, 2, 3, 0] rfl ?_
        exact ih v1 v2 (v3 + 1) hf
      · have hf := gx_if c_18 hf
        refine j_aload_n (pc := 21) g 0 dX3_countCommand_21 rfl ?_
        refine j_iload_n (pc := 22) g 1 dX3_countCommand_22 rfl ?_
        refine j_iload_n (pc := 23) g 3 dX3_countCommand_23 rfl ?_
        obtain ⟨r24, h_24, hf⟩ := gx_bs hf
        refine cO_X3_X3_isOver_0 (σ := σ) (pc := 24) g (cX3_isOver_ h_24) ⟨Nat.le_of_ble_eq_true rfl, Nat.le_of_ble_eq_true rfl⟩ ⟨Nat.zero_le _, Nat.zero_le _⟩ (Nat.le_of_ble_eq_true rfl) dX3_countCommand_24 ?_
        refine j_if_eq (tgt := 33) (pc := 27) g dX3_countCommand_27 (by decide) (fun c_27 => ?_) (fun c_27 => ?_)
        · have hf := gx_it c_27 hf
          refine j_iinc (v := v3 + 1) (L' := [(3, .int (v3 + 1)), (0, .ref (ad 0)), (1, .int v1), (2, .int v2)]) (pc := 33) g 3 dX3_countCommand_33 rfl rfl (Nat.le_of_ble_eq_true rfl) rfl ?_
          refine j_goto (tgt := 4) (pc := 36) g dX3_countCommand_36 (by decide) ?_
          refine j_sub (pc := 4) g [1, 2, 3, 0] rfl ?_
          exact ih v1 v2 (v3 + 1) hf
        · have hf := gx_if c_27 hf
          refine j_iinc (v := v2 + 1) (L' := [(2, .int (v2 + 1)), (0, .ref (ad 0)), (1, .int v1), (3, .int v3)]) (pc := 30) g 2 dX3_countCommand_30 rfl rfl (Nat.le_of_ble_eq_true rfl) rfl ?_
          refine j_iinc (v := v3 + 1) (L' := [(3, .int (v3 + 1)), (2, .int (v2 + 1)), (0, .ref (ad 0)), (1, .int v1)]) (pc := 33) g 3 dX3_countCommand_33 rfl rfl (Nat.le_of_ble_eq_true rfl) rfl ?_
          refine j_goto (tgt := 4) (pc := 36) g dX3_countCommand_36 (by decide) ?_
          refine j_sub (pc := 4) g [2, 3, 1, 0] rfl ?_
          exact ih v1 (v2 + 1) (v3 + 1) hf
set_option maxRecDepth 100000 in
set_option maxHeartbeats 4000000 in
theorem cX3_countCommand_ {D : va_G} {t : Nat → ClassId} {aa : gx_AA} {l : Launch} {ad : Nat → Nat} {rs : va_W} {σ : OS} {p1 : Int32} {q : Int32} (hf : fX3_countCommand σ p1 = some q) : gx_C D t (gx_E0 aa) l yX3_countCommand cX3_countCommand 4 (some .int) 2 46 [.ref (ad 0), .int p1] (oC ad t σ ++ rs) (oC ad t σ ++ rs) (some (.int q)) := by
  refine gx_intro_i (by decide) (Nat.le_of_ble_eq_true rfl) (fun J g hE0 => ?_)
  have hE : ∀ (v : Int32) (pc : Nat) (L : List (Nat × Value)), some v = some q → decode cX3_countCommand pc = .ok (.ireturn, 1) → narrow .int (.int v) = .int v → J 0 0 (oC ad t σ ++ rs) pc L [.int v] := fun v pc L h h1 h2 => by cases h; exact hE0 pc L h1 h2
  unfold fX3_countCommand at hf
  show J 0 0 (oC ad t σ ++ rs) 0 [(0, .ref (ad 0)), (1, .int p1)] []
  refine j_iconst (v := 1) (pc := 0) g dX3_countCommand_0 (by decide) ?_
  refine j_istore_n (L' := [(2, .int (1 : Int32)), (0, .ref (ad 0)), (1, .int p1)]) (pc := 1) g dX3_countCommand_1 rfl (Nat.le_of_ble_eq_true rfl) rfl ?_
  refine j_iconst (v := 0) (pc := 2) g dX3_countCommand_2 (by decide) ?_
  refine j_istore_n (L' := [(3, .int (0 : Int32)), (2, .int (1 : Int32)), (0, .ref (ad 0)), (1, .int p1)]) (pc := 3) g dX3_countCommand_3 rfl (Nat.le_of_ble_eq_true rfl) rfl ?_
  refine j_sub (pc := 4) g [2, 3, 1, 0] rfl ?_
  exact tX3_countCommand_4 g hE 2000 p1 (1 : Int32) (0 : Int32) hf
theorem cO_X3_X3_countCommand_0 {D : va_G} {t : Nat → ClassId} {aa : gx_AA} {l : Launch} {R : Room} {cc : ByteArray} {nL : Nat} {J : gx_J} {ad : Nat → Nat} {rs : va_W} {k n pc : Nat} {L : List (Nat × Value)} {rest : List Value} (g : gx_G D t (gx_E0 aa) l R cc RX3 nL J) {σ : OS} {x0 : Int32} {q : Int32} {fr lo : Nat} (hC : gx_C D t (gx_E0 aa) l yX3_countCommand cX3_countCommand 4 (some .int) fr lo [.ref (ad 0), .int x0] (oC ad t σ ++ rs) (oC ad t σ ++ rs) (some (.int q))) (hR : fr + 1 ≤ R.frames ∧ 8 + (4 + 11) + lo ≤ R.locals) (hkn : k ≤ R.cells ∧ n ≤ R.slots) (hcat : (rest.map fun v => v.category).sum ≤ 8) (hd : decode cc pc = .ok (.invokevirtual 68, 3)) (kk : J k n (oC ad t σ ++ rs) (pc + 3) L (.int q :: rest)) : J k n (oC ad t σ ++ rs) pc L (.int x0 :: .ref (ad 0) :: rest) := j_callVi (na := 1) (As := [.int x0]) (q0 := 0) (ci := 5) g hC q_i_X3_countCommand q_s_X3_countCommand rfl rfl rfl q_c_X3_countCommand q_l_X3_68 q_n_X3 (by decide +kernel) rfl hR hkn hcat (.refl _) (.refl _) hd kk rfl
set_option maxRecDepth 100000 in
set_option maxHeartbeats 4000000 in
theorem cX3_waysAgree_ {D : va_G} {t : Nat → ClassId} {aa : gx_AA} {l : Launch} {ad : Nat → Nat} {rs : va_W} {σ : OS} {p1 : Int32} {q : Int32} (hf : fX3_waysAgree σ p1 = some q) : gx_C D t (gx_E0 aa) l yX3_waysAgree cX3_waysAgree 3 (some .boolean) 17 425 [.ref (ad 0), .int p1] (oC ad t σ ++ rs) (oC ad t σ ++ rs) (some (.int q)) := by
  refine gx_intro_i (by decide) (Nat.le_of_ble_eq_true rfl) (fun J g hE0 => ?_)
  have hE : ∀ (v : Int32) (pc : Nat) (L : List (Nat × Value)), some v = some q → decode cX3_waysAgree pc = .ok (.ireturn, 1) → narrow .boolean (.int v) = .int v → J 0 0 (oC ad t σ ++ rs) pc L [.int v] := fun v pc L h h1 h2 => by cases h; exact hE0 pc L h1 h2
  unfold fX3_waysAgree at hf
  show J 0 0 (oC ad t σ ++ rs) 0 [(0, .ref (ad 0)), (1, .int p1)] []
  refine j_aload_n (pc := 0) g 0 dX3_waysAgree_0 rfl ?_
  refine gO_X3_0_3 (σ := σ) (pc := 1) g dX3_waysAgree_1 ?_
  refine j_iload_n (pc := 4) g 1 dX3_waysAgree_4 rfl ?_
  obtain ⟨h_5, hf⟩ := gx_ck hf
  refine lO_X3_0_3 (σ := σ) (pc := 5) g h_5 dX3_waysAgree_5 ?_
  refine j_istore_n (L' := [(2, .int (os_a σ 3 p1.toNatClampNeg)), (0, .ref (ad 0)), (1, .int p1)]) (pc := 6) g dX3_waysAgree_6 rfl (Nat.le_of_ble_eq_true rfl) rfl ?_
  refine j_aload_n (pc := 7) g 1 dX3_waysAgree_7 rfl ?_
  refine j_iload_n (pc := 8) g 2 dX3_waysAgree_8 rfl ?_
  obtain ⟨r9, h_9, hf⟩ := gx_bs hf
  refine cO_X3_X3_climbDepth_0 (σ := σ) (pc := 9) g (cX3_climbDepth_ h_9) ⟨Nat.le_of_ble_eq_true rfl, Nat.le_of_ble_eq_true rfl⟩ ⟨Nat.zero_le _, Nat.zero_le _⟩ (Nat.le_of_ble_eq_true rfl) dX3_waysAgree_9 ?_
  refine j_aload_n (pc := 12) g 1 dX3_waysAgree_12 rfl ?_
  refine j_iconst (v := 0) (pc := 13) g dX3_waysAgree_13 (by decide) ?_
  refine j_iload_n (pc := 14) g 2 dX3_waysAgree_14 rfl ?_
  refine j_iconst (v := 0) (pc := 15) g dX3_waysAgree_15 (by decide) ?_
  obtain ⟨r16, h_16, hf⟩ := gx_bs hf
  refine cO_X3_X3_searchDepth_0 (σ := σ) (pc := 16) g (cX3_searchDepth_ 16 h_16) ⟨Nat.le_of_ble_eq_true rfl, Nat.le_of_ble_eq_true rfl⟩ ⟨Nat.zero_le _, Nat.zero_le _⟩ (Nat.le_of_ble_eq_true rfl) dX3_waysAgree_16 ?_
  refine j_icmp_ne (tgt := 60) (pc := 19) g dX3_waysAgree_19 (by decide) (fun c_19 => ?_) (fun c_19 => ?_)
  · have hf := gx_if c_19 hf
    refine j_iconst (v := 0) (pc := 60) g dX3_waysAgree_60 (by decide) ?_
    exact hE _ _ _ hf dX3_waysAgree_61 rfl
  · have hf := gx_it c_19 hf
    refine j_aload_n (pc := 22) g 1 dX3_waysAgree_22 rfl ?_
    refine j_iload_n (pc := 23) g 2 dX3_waysAgree_23 rfl ?_
    refine j_iconst (v := 0) (pc := 24) g dX3_waysAgree_24 (by decide) ?_
    obtain ⟨r25, h_25, hf⟩ := gx_bs hf
    refine cO_X3_X3_sizeGoingDown_0 (σ := σ) (pc := 25) g (cX3_sizeGoingDown_ 16 h_25) ⟨Nat.le_of_ble_eq_true rfl, Nat.le_of_ble_eq_true rfl⟩ ⟨Nat.zero_le _, Nat.zero_le _⟩ (Nat.le_of_ble_eq_true rfl) dX3_waysAgree_25 ?_
    refine j_aload_n (pc := 28) g 1 dX3_waysAgree_28 rfl ?_
    refine j_iload_n (pc := 29) g 2 dX3_waysAgree_29 rfl ?_
    obtain ⟨r30, h_30, hf⟩ := gx_bs hf
    refine cO_X3_X3_countCommand_0 (σ := σ) (pc := 30) g (cX3_countCommand_ h_30) ⟨Nat.le_of_ble_eq_true rfl, Nat.le_of_ble_eq_true rfl⟩ ⟨Nat.zero_le _, Nat.zero_le _⟩ (Nat.le_of_ble_eq_true rfl) dX3_waysAgree_30 ?_
    refine j_icmp_ne (tgt := 60) (pc := 33) g dX3_waysAgree_33 (by decide) (fun c_33 => ?_) (fun c_33 => ?_)
    · have hf := gx_if c_33 hf
      refine j_iconst (v := 0) (pc := 60) g dX3_waysAgree_60 (by decide) ?_
      exact hE _ _ _ hf dX3_waysAgree_61 rfl
    · have hf := gx_it c_33 hf
      refine j_iload_n (pc := 36) g 0 dX3_waysAgree_36 rfl ?_
      refine j_iconst (v := -1) (pc := 37) g dX3_waysAgree_37 (by decide) ?_
      refine j_icmp_eq (tgt := 56) (pc := 38) g dX3_waysAgree_38 (by decide) (fun c_38 => ?_) (fun c_38 => ?_)
      · have hf := gx_it c_38 hf
        refine j_iconst (v := 1) (pc := 56) g dX3_waysAgree_56 (by decide) ?_
        refine j_goto (tgt := 61) (pc := 57) g dX3_waysAgree_57 (by decide) ?_
        exact hE _ _ _ hf dX3_waysAgree_61 rfl
      · have hf := gx_if c_38 hf
        refine j_aload_n (pc := 41) g 1 dX3_waysAgree_41 rfl ?_
        refine gO_X3_0_0 (σ := σ) (pc := 42) g dX3_waysAgree_42 ?_
        refine j_iload_n (pc := 45) g 0 dX3_waysAgree_45 rfl ?_
        obtain ⟨h_46, hf⟩ := gx_ck hf
        refine lO_X3_0_0 (σ := σ) (pc := 46) g h_46 dX3_waysAgree_46 ?_
        refine j_aload_n (pc := 47) g 1 dX3_waysAgree_47 rfl ?_
        refine gO_X3_0_0 (σ := σ) (pc := 48) g dX3_waysAgree_48 ?_
        refine j_iload_n (pc := 51) g 2 dX3_waysAgree_51 rfl ?_
        obtain ⟨h_52, hf⟩ := gx_ck hf
        refine lO_X3_0_0 (σ := σ) (pc := 52) g h_52 dX3_waysAgree_52 ?_
        refine j_icmp_le (tgt := 60) (pc := 53) g dX3_waysAgree_53 (by decide) (fun c_53 => ?_) (fun c_53 => ?_)
        · have hf := gx_it c_53 hf
          refine j_iconst (v := 0) (pc := 60) g dX3_waysAgree_60 (by decide) ?_
          exact hE _ _ _ hf dX3_waysAgree_61 rfl
        · have hf := gx_if c_53 hf
          refine j_iconst (v := 1) (pc := 56) g dX3_waysAgree_56 (by decide) ?_
          refine j_goto (tgt := 61) (pc := 57) g dX3_waysAgree_57 (by decide) ?_
          exact hE _ _ _ hf dX3_waysAgree_61 rfl
theorem cO_X3_X3_isSortedBefore_0 {D : va_G} {t : Nat → ClassId} {aa : gx_AA} {l : Launch} {R : Room} {cc : ByteArray} {nL : Nat} {J : gx_J} {ad : Nat → Nat} {rs : va_W} {k n pc : Nat} {L : List (Nat × Value)} {rest : List Value} (g : gx_G D t (gx_E0 aa) l R cc RX3 nL J) {σ : OS} {x0 x1 : Int32} {q : Int32} {fr lo : Nat} (hC : gx_C D t (gx_E0 aa) l yX3_isSortedBefore cX3_isSortedBefore 3 (some .boolean) fr lo [.ref (ad 0), .int x0, .int x1] (oC ad t σ ++ rs) (oC ad t σ ++ rs) (some (.int q))) (hR : fr + 1 ≤ R.frames ∧ 8 + (3 + 11) + lo ≤ R.locals) (hkn : k ≤ R.cells ∧ n ≤ R.slots) (hcat : (rest.map fun v => v.category).sum ≤ 8) (hd : decode cc pc = .ok (.invokevirtual 86, 3)) (kk : J k n (oC ad t σ ++ rs) (pc + 3) L (.int q :: rest)) : J k n (oC ad t σ ++ rs) pc L (.int x1 :: .int x0 :: .ref (ad 0) :: rest) := j_callVi (na := 2) (As := [.int x0, .int x1]) (q0 := 0) (ci := 5) g hC q_i_X3_isSortedBefore q_s_X3_isSortedBefore rfl rfl rfl q_c_X3_isSortedBefore q_l_X3_86 q_n_X3 (by decide +kernel) rfl hR hkn hcat (.refl _) (.refl _) hd kk rfl
set_option maxRecDepth 100000 in
set_option maxHeartbeats 4000000 in
theorem tX3_countBefore_4 {D : va_G} {t : Nat → ClassId} {aa : gx_AA} {l : Launch} {J : gx_J} {ad : Nat → Nat} {rs : va_W} {σ : OS} {q : Int32} (g : gx_G D t (gx_E0 aa) l ({ frames := 1, cells := 0, slots := 0, locals := 22 }) cX3_countBefore RX3 4 J) (hE : ∀ (v : Int32) (pc : Nat) (L : List (Nat × Value)), some v = some q → decode cX3_countBefore pc = .ok (.ireturn, 1) → narrow .int (.int v) = .int v → J 0 0 (oC ad t σ ++ rs) pc L [.int v])  : ∀ (n : Nat) (v1 : Int32) (v2 : Int32) (v3 : Int32), fX3_countBefore_4 σ n v1 v2 v3 = some q → J 0 0 (oC ad t σ ++ rs) 4 [(0, .ref (ad 0)), (1, .int v1), (2, .int v2), (3, .int v3)] [] := by
  intro n
  induction n with
  | zero => intro v1 v2 v3 hf; cases hf
  | succ n ih =>
    intro v1 v2 v3 hf
    replace hf := (fX3_countBefore_4_s σ n v1 v2 v3).symm.trans hf
    refine j_iload_n (pc := 4) g 3 dX3_countBefore_4 rfl ?_
    refine j_aload_n (pc := 5) g 0 dX3_countBefore_5 rfl ?_
    refine gO_X3_0_5 (σ := σ) (pc := 6) g dX3_countBefore_6 ?_
    refine j_icmp_ge (tgt := 39) (pc := 9) g dX3_countBefore_9 (by decide) (fun c_9 => ?_) (fun c_9 => ?_)
    · have hf := gx_it c_9 hf
      refine j_iload_n (pc := 39) g 2 dX3_countBefore_39 rfl ?_
      exact hE _ _ _ hf dX3_countBefore_40 rfl
    · have hf := gx_if c_9 hf
      refine j_aload_n (pc := 12) g 0 dX3_countBefore_12 rfl ?_
      refine gO_X3_0_4 (σ := σ) (pc := 13) g dX3_countBefore_13 ?_
      refine j_iload_n (pc := 16) g 3 dX3_countBefore_16 rfl ?_
      obtain ⟨h_17, hf⟩ := gx_ck hf
      refine lO_X3_0_4 (σ := σ) (pc := 17) g h_17 dX3_countBefore_17 ?_
      refine j_if_eq (tgt := 33) (pc := 18) g dX3_countBefore_18 (by decide) (fun c_18 => ?_) (fun c_18 => ?_)
      · have hf := gx_it c_18 hf
        refine j_iinc (v := v3 + 1) (L' := [(3, .int (v3 + 1)), (0, .ref (ad 0)), (1, .int v1), (2, .int v2)]) (pc := 33) g 3 dX3_countBefore_33 rfl rfl (Nat.le_of_ble_eq_true rfl) rfl ?_
        refine j_goto (tgt := 4) (pc := 36) g dX3_countBefore_36 (by decide) ?_
        refine j_sub (pc := 4) g [1, 2, 3, 0] rfl ?_
        exact ih v1 v2 (v3 + 1) hf
      · have hf := gx_if c_18 hf
        refine j_aload_n (pc := 21) g 0 dX3_countBefore_21 rfl ?_
        refine j_iload_n (pc := 22) g 3 dX3_countBefore_22 rfl ?_
        refine j_iload_n (pc := 23) g 1 dX3_countBefore_23 rfl ?_
        obtain ⟨r24, h_24, hf⟩ := gx_bs hf
        refine cO_X3_X3_isSortedBefore_0 (σ := σ) (pc := 24) g (cX3_isSortedBefore_ h_24) ⟨Nat.le_of_ble_eq_true rfl, Nat.le_of_ble_eq_true rfl⟩ ⟨Nat.zero_le _, Nat.zero_le _⟩ (Nat.le_of_ble_eq_true rfl) dX3_countBefore_24 ?_
        refine j_if_eq (tgt := 33) (pc := 27) g dX3_countBefore_27 (by decide) (fun c_27 => ?_) (fun c_27 => ?_)
        · have hf := gx_it c_27 hf
          refine j_iinc (v := v3 + 1) (L' := [(3, .int (v3 + 1)), (0, .ref (ad 0)), (1, .int v1), (2, .int v2)]) (pc := 33) g 3 dX3_countBefore_33 rfl rfl (Nat.le_of_ble_eq_true rfl) rfl ?_
          refine j_goto (tgt := 4) (pc := 36) g dX3_countBefore_36 (by decide) ?_
          refine j_sub (pc := 4) g [1, 2, 3, 0] rfl ?_
          exact ih v1 v2 (v3 + 1) hf
        · have hf := gx_if c_27 hf
          refine j_iinc (v := v2 + 1) (L' := [(2, .int (v2 + 1)), (0, .ref (ad 0)), (1, .int v1), (3, .int v3)]) (pc := 30) g 2 dX3_countBefore_30 rfl rfl (Nat.le_of_ble_eq_true rfl) rfl ?_
          refine j_iinc (v := v3 + 1) (L' := [(3, .int (v3 + 1)), (2, .int (v2 + 1)), (0, .ref (ad 0)), (1, .int v1)]) (pc := 33) g 3 dX3_countBefore_33 rfl rfl (Nat.le_of_ble_eq_true rfl) rfl ?_
          refine j_goto (tgt := 4) (pc := 36) g dX3_countBefore_36 (by decide) ?_
          refine j_sub (pc := 4) g [2, 3, 1, 0] rfl ?_
          exact ih v1 (v2 + 1) (v3 + 1) hf
set_option maxRecDepth 100000 in
set_option maxHeartbeats 4000000 in
theorem cX3_countBefore_ {D : va_G} {t : Nat → ClassId} {aa : gx_AA} {l : Launch} {ad : Nat → Nat} {rs : va_W} {σ : OS} {p1 : Int32} {q : Int32} (hf : fX3_countBefore σ p1 = some q) : gx_C D t (gx_E0 aa) l yX3_countBefore cX3_countBefore 4 (some .int) 1 22 [.ref (ad 0), .int p1] (oC ad t σ ++ rs) (oC ad t σ ++ rs) (some (.int q)) := by
  refine gx_intro_i (by decide) (Nat.le_of_ble_eq_true rfl) (fun J g hE0 => ?_)
  have hE : ∀ (v : Int32) (pc : Nat) (L : List (Nat × Value)), some v = some q → decode cX3_countBefore pc = .ok (.ireturn, 1) → narrow .int (.int v) = .int v → J 0 0 (oC ad t σ ++ rs) pc L [.int v] := fun v pc L h h1 h2 => by cases h; exact hE0 pc L h1 h2
  unfold fX3_countBefore at hf
  show J 0 0 (oC ad t σ ++ rs) 0 [(0, .ref (ad 0)), (1, .int p1)] []
  refine j_iconst (v := 0) (pc := 0) g dX3_countBefore_0 (by decide) ?_
  refine j_istore_n (L' := [(2, .int (0 : Int32)), (0, .ref (ad 0)), (1, .int p1)]) (pc := 1) g dX3_countBefore_1 rfl (Nat.le_of_ble_eq_true rfl) rfl ?_
  refine j_iconst (v := 0) (pc := 2) g dX3_countBefore_2 (by decide) ?_
  refine j_istore_n (L' := [(3, .int (0 : Int32)), (2, .int (0 : Int32)), (0, .ref (ad 0)), (1, .int p1)]) (pc := 3) g dX3_countBefore_3 rfl (Nat.le_of_ble_eq_true rfl) rfl ?_
  refine j_sub (pc := 4) g [2, 3, 1, 0] rfl ?_
  exact tX3_countBefore_4 g hE 2000 p1 (0 : Int32) (0 : Int32) hf
theorem cB_X0_X0_find_0 {D : va_G} {t : Nat → ClassId} {aa : gx_AA} {l : Launch} {R : Room} {cc : ByteArray} {nL : Nat} {J : gx_J} {ad : Nat → Nat} {rs : va_W} {k n pc : Nat} {L : List (Nat × Value)} {rest : List Value} (g : gx_G D t (gx_E0 aa) l R cc RX0 nL J) {σ : OS} {x0 x1 : Int32} {q : Int32} {fr lo : Nat} (hC : gx_C D t (gx_E0 aa) l yX0_find cX0_find 4 (some .int) fr lo [.ref (ad 0), .int x0, .int x1] (bC ad t σ ++ rs) (bC ad t σ ++ rs) (some (.int q))) (hR : fr + 1 ≤ R.frames ∧ 8 + (4 + 11) + lo ≤ R.locals) (hkn : k ≤ R.cells ∧ n ≤ R.slots) (hcat : (rest.map fun v => v.category).sum ≤ 8) (hd : decode cc pc = .ok (.invokevirtual 32, 3)) (kk : J k n (bC ad t σ ++ rs) (pc + 3) L (.int q :: rest)) : J k n (bC ad t σ ++ rs) pc L (.int x1 :: .int x0 :: .ref (ad 0) :: rest) := j_callVi (na := 2) (As := [.int x0, .int x1]) (q0 := 0) (ci := 2) g hC q_i_X0_find q_s_X0_find rfl rfl rfl q_c_X0_find q_l_X0_32 q_n_X0 (by decide +kernel) rfl hR hkn hcat (.refl _) (.refl _) hd kk rfl
theorem sB_X0_0_1 {D : va_G} {t : Nat → ClassId} {aa : gx_AA} {l : Launch} {R : Room} {cc : ByteArray} {nL : Nat} {J : gx_J} {ad : Nat → Nat} {rs : va_W} {k n pc : Nat} {L : List (Nat × Value)} {st : List Value} (g : gx_G D t (gx_E0 aa) l R cc RX0 nL J) {σ : OS} {i x : Int32} (hin : gx_in i 20) (hd : decode cc pc = .ok (.iastore, 1)) (kk : J k n (bC ad t (os_sa σ 1 i.toNatClampNeg x) ++ rs) (pc + 1) L st) : J k n (bC ad t σ ++ rs) pc L (.int x :: .int i :: .ref (ad 2) :: st) := j_iast (w' := bC ad t (os_sa σ 1 i.toNatClampNeg x) ++ rs) g 2 rfl hin rfl hd kk
theorem sB_X0_0_0 {D : va_G} {t : Nat → ClassId} {aa : gx_AA} {l : Launch} {R : Room} {cc : ByteArray} {nL : Nat} {J : gx_J} {ad : Nat → Nat} {rs : va_W} {k n pc : Nat} {L : List (Nat × Value)} {st : List Value} (g : gx_G D t (gx_E0 aa) l R cc RX0 nL J) {σ : OS} {i x : Int32} (hin : gx_in i 20) (hd : decode cc pc = .ok (.iastore, 1)) (kk : J k n (bC ad t (os_sa σ 0 i.toNatClampNeg x) ++ rs) (pc + 1) L st) : J k n (bC ad t σ ++ rs) pc L (.int x :: .int i :: .ref (ad 1) :: st) := j_iast (w' := bC ad t (os_sa σ 0 i.toNatClampNeg x) ++ rs) g 1 rfl hin rfl hd kk
theorem pB_X0_0_2 {D : va_G} {t : Nat → ClassId} {aa : gx_AA} {l : Launch} {R : Room} {cc : ByteArray} {nL : Nat} {J : gx_J} {ad : Nat → Nat} {rs : va_W} {k n pc : Nat} {L : List (Nat × Value)} {st : List Value} (g : gx_G D t (gx_E0 aa) l R cc RX0 nL J) {σ : OS} {v : Int32} (hd : decode cc pc = .ok (.putfield 24, 3)) (kk : J k n (bC ad t (os_sf σ 2 v) ++ rs) (pc + 3) L st) : J k n (bC ad t σ ++ rs) pc L (.int v :: .ref (ad 0) :: st) := j_put (w' := bC ad t (os_sf σ 2 v) ++ rs) g in_X0 0 rfl rfl 2 (by decide) q_f_X0_24 rfl tyX0 tyX0_ok nmX0 rfl (ty := .int) (by decide +kernel) rfl rfl (Nat.le_of_ble_eq_true rfl) rfl hd kk
set_option maxRecDepth 100000 in
set_option maxHeartbeats 4000000 in
theorem tX0_assign_81 {D : va_G} {t : Nat → ClassId} {aa : gx_AA} {l : Launch} {J : gx_J} {ad : Nat → Nat} {rs : va_W} {q : (Int32 × OS)} (g : gx_G D t (gx_E0 aa) l ({ frames := 2, cells := 0, slots := 0, locals := 44 }) cX0_assign RX0 5 J) (hE : ∀ (v : Int32) (σ : OS) (pc : Nat) (L : List (Nat × Value)), some (v, σ) = some q → decode cX0_assign pc = .ok (.ireturn, 1) → narrow .int (.int v) = .int v → J 0 0 (bC ad t σ ++ rs) pc L [.int v])  : ∀ (σ : OS) (v3 : Int32) (v4 : Int32), fX0_assign_81 σ v3 v4 = some q → J 0 0 (bC ad t σ ++ rs) 81 [(0, .ref (ad 0)), (3, .int v3), (4, .int v4)] [] := by
  intro σ v3 v4 hf
  unfold fX0_assign_81 at hf
  refine j_aload_n (pc := 81) g 0 dX0_assign_81 rfl ?_
  refine gB_X0_0_1 (σ := σ) (pc := 82) g dX0_assign_82 ?_
  refine j_iload (pc := 85) g 2 dX0_assign_85 rfl ?_
  refine j_iload_n (pc := 87) g 1 dX0_assign_87 rfl ?_
  obtain ⟨h_88, hf⟩ := gx_ck hf
  refine sB_X0_0_1 (σ := σ) (pc := 88) g h_88 dX0_assign_88 ?_
  refine j_aload_n (pc := 89) g 0 dX0_assign_89 rfl ?_
  refine gB_X0_0_2 (σ := os_sa σ 1 v4.toNatClampNeg v3) (pc := 90) g dX0_assign_90 ?_
  exact hE _ _ _ _ hf dX0_assign_93 rfl
set_option maxRecDepth 100000 in
set_option maxHeartbeats 4000000 in
theorem cX0_assign_ {D : va_G} {t : Nat → ClassId} {aa : gx_AA} {l : Launch} {ad : Nat → Nat} {rs : va_W} {σ : OS} {p1 : Int32} {p2 : Int32} {p3 : Int32} {q : (Int32 × OS)} (hf : fX0_assign σ p1 p2 p3 = some q) : gx_C D t (gx_E0 aa) l yX0_assign cX0_assign 5 (some .int) 2 44 [.ref (ad 0), .int p1, .int p2, .int p3] (bC ad t σ ++ rs) (bC ad t q.2 ++ rs) (some (.int q.1)) := by
  refine gx_intro_i (by decide) (Nat.le_of_ble_eq_true rfl) (fun J g hE0 => ?_)
  have hE : ∀ (v : Int32) (σ : OS) (pc : Nat) (L : List (Nat × Value)), some (v, σ) = some q → decode cX0_assign pc = .ok (.ireturn, 1) → narrow .int (.int v) = .int v → J 0 0 (bC ad t σ ++ rs) pc L [.int v] := fun v σ pc L h h1 h2 => by cases h; exact hE0 pc L h1 h2
  unfold fX0_assign at hf
  show J 0 0 (bC ad t σ ++ rs) 0 [(0, .ref (ad 0)), (1, .int p1), (2, .int p2), (3, .int p3)] []
  refine j_iload_n (pc := 0) g 1 dX0_assign_0 rfl ?_
  obtain ⟨r1, h_1, hf⟩ := gx_bs hf
  refine cB_X0_X0_isLetter (pc := 1) g (cX0_isLetter_ (rs := _) (ad := fun i => i) h_1) ⟨Nat.le_of_ble_eq_true rfl, Nat.le_of_ble_eq_true rfl⟩ ⟨Nat.zero_le _, Nat.zero_le _⟩ (Nat.le_of_ble_eq_true rfl) dX0_assign_1 ?_
  refine j_if_eq (tgt := 24) (pc := 4) g dX0_assign_4 (by decide) (fun c_4 => ?_) (fun c_4 => ?_)
  · have hf := gx_it c_4 hf
    refine j_bipush (v := -2) (pc := 24) g dX0_assign_24 (by decide) ?_
    exact hE _ _ _ _ hf dX0_assign_26 rfl
  · have hf := gx_if c_4 hf
    refine j_iload_n (pc := 7) g 2 dX0_assign_7 rfl ?_
    obtain ⟨r8, h_8, hf⟩ := gx_bs hf
    refine cB_X0_X0_isLetter (pc := 8) g (cX0_isLetter_ (rs := _) (ad := fun i => i) h_8) ⟨Nat.le_of_ble_eq_true rfl, Nat.le_of_ble_eq_true rfl⟩ ⟨Nat.zero_le _, Nat.zero_le _⟩ (Nat.le_of_ble_eq_true rfl) dX0_assign_8 ?_
    refine j_if_eq (tgt := 24) (pc := 11) g dX0_assign_11 (by decide) (fun c_11 => ?_) (fun c_11 => ?_)
    · have hf := gx_it c_11 hf
      refine j_bipush (v := -2) (pc := 24) g dX0_assign_24 (by decide) ?_
      exact hE _ _ _ _ hf dX0_assign_26 rfl
    · have hf := gx_if c_11 hf
      refine j_iload_n (pc := 14) g 3 dX0_assign_14 rfl ?_
      refine j_if_lt (tgt := 24) (pc := 15) g dX0_assign_15 (by decide) (fun c_15 => ?_) (fun c_15 => ?_)
      · have hf := gx_it c_15 hf
        refine j_bipush (v := -2) (pc := 24) g dX0_assign_24 (by decide) ?_
        exact hE _ _ _ _ hf dX0_assign_26 rfl
      · have hf := gx_if c_15 hf
        refine j_iload_n (pc := 18) g 3 dX0_assign_18 rfl ?_
        refine j_bipush (v := 99) (pc := 19) g dX0_assign_19 (by decide) ?_
        refine j_icmp_le (tgt := 27) (pc := 21) g dX0_assign_21 (by decide) (fun c_21 => ?_) (fun c_21 => ?_)
        · have hf := gx_it c_21 hf
          refine j_aload_n (pc := 27) g 0 dX0_assign_27 rfl ?_
          refine j_iload_n (pc := 28) g 1 dX0_assign_28 rfl ?_
          refine j_iload_n (pc := 29) g 2 dX0_assign_29 rfl ?_
          obtain ⟨r30, h_30, hf⟩ := gx_bs hf
          refine cB_X0_X0_find_0 (σ := σ) (pc := 30) g (cX0_find_ h_30) ⟨Nat.le_of_ble_eq_true rfl, Nat.le_of_ble_eq_true rfl⟩ ⟨Nat.zero_le _, Nat.zero_le _⟩ (Nat.le_of_ble_eq_true rfl) dX0_assign_30 ?_
          refine j_istore (L' := [(4, .int r30), (0, .ref (ad 0)), (1, .int p1), (2, .int p2), (3, .int p3)]) (pc := 33) g dX0_assign_33 (Nat.le_of_ble_eq_true rfl) rfl ?_
          refine j_iload (pc := 35) g 0 dX0_assign_35 rfl ?_
          refine j_iconst (v := -1) (pc := 37) g dX0_assign_37 (by decide) ?_
          refine j_icmp_ne (tgt := 81) (pc := 38) g dX0_assign_38 (by decide) (fun c_38 => ?_) (fun c_38 => ?_)
          · have hf := gx_if c_38 hf
            refine j_sub (pc := 81) g [1, 4, 0] rfl ?_
            exact tX0_assign_81 g hE σ p3 r30 hf
          · have hf := gx_it c_38 hf
            refine j_aload_n (pc := 41) g 1 dX0_assign_41 rfl ?_
            refine gB_X0_0_2 (σ := σ) (pc := 42) g dX0_assign_42 ?_
            refine j_bipush (v := 20) (pc := 45) g dX0_assign_45 (by decide) ?_
            refine j_icmp_lt (tgt := 53) (pc := 47) g dX0_assign_47 (by decide) (fun c_47 => ?_) (fun c_47 => ?_)
            · have hf := gx_it c_47 hf
              refine j_aload_n (pc := 53) g 1 dX0_assign_53 rfl ?_
              refine gB_X0_0_2 (σ := σ) (pc := 54) g dX0_assign_54 ?_
              refine j_istore (L' := [(4, .int (os_f σ 2)), (0, .ref (ad 0)), (1, .int p1), (2, .int p2), (3, .int p3)]) (pc := 57) g dX0_assign_57 (Nat.le_of_ble_eq_true rfl) rfl ?_
              refine j_aload_n (pc := 59) g 1 dX0_assign_59 rfl ?_
              refine gB_X0_0_0 (σ := σ) (pc := 60) g dX0_assign_60 ?_
              refine j_iload (pc := 63) g 0 dX0_assign_63 rfl ?_
              refine j_iload_n (pc := 65) g 2 dX0_assign_65 rfl ?_
              refine j_iload_n (pc := 66) g 3 dX0_assign_66 rfl ?_
              obtain ⟨r67, h_67, hf⟩ := gx_bs hf
              refine cB_X0_X0_number (pc := 67) g (cX0_number_ (rs := _) (ad := fun i => i) h_67) ⟨Nat.le_of_ble_eq_true rfl, Nat.le_of_ble_eq_true rfl⟩ ⟨Nat.zero_le _, Nat.zero_le _⟩ (Nat.le_of_ble_eq_true rfl) dX0_assign_67 ?_
              obtain ⟨h_70, hf⟩ := gx_ck hf
              refine sB_X0_0_0 (σ := σ) (pc := 70) g h_70 dX0_assign_70 ?_
              refine j_aload_n (pc := 71) g 1 dX0_assign_71 rfl ?_
              refine j_dup (pc := 72) g dX0_assign_72 rfl ?_
              refine gB_X0_0_2 (σ := os_sa σ 0 (os_f σ 2).toNatClampNeg r67) (pc := 73) g dX0_assign_73 ?_
              refine j_iconst (v := 1) (pc := 76) g dX0_assign_76 (by decide) ?_
              refine j_iadd (pc := 77) g dX0_assign_77 ?_
              refine pB_X0_0_2 (σ := os_sa σ 0 (os_f σ 2).toNatClampNeg r67) (pc := 78) g dX0_assign_78 ?_
              refine j_sub (pc := 81) g [1, 4, 0] rfl ?_
              exact tX0_assign_81 g hE (os_sf (os_sa σ 0 (os_f σ 2).toNatClampNeg r67) 2 ((os_f (os_sa σ 0 (os_f σ 2).toNatClampNeg r67) 2) + (1 : Int32))) p3 (os_f σ 2) hf
            · have hf := gx_if c_47 hf
              refine j_bipush (v := -3) (pc := 50) g dX0_assign_50 (by decide) ?_
              exact hE _ _ _ _ hf dX0_assign_52 rfl
        · have hf := gx_if c_21 hf
          refine j_bipush (v := -2) (pc := 24) g dX0_assign_24 (by decide) ?_
          exact hE _ _ _ _ hf dX0_assign_26 rfl

set_option maxRecDepth 100000 in
set_option maxHeartbeats 4000000 in
theorem cX0_lookUp_ {D : va_G} {t : Nat → ClassId} {aa : gx_AA} {l : Launch} {ad : Nat → Nat} {rs : va_W} {σ : OS} {p1 : Int32} {p2 : Int32} {q : Int32} (hf : fX0_lookUp σ p1 p2 = some q) : gx_C D t (gx_E0 aa) l yX0_lookUp cX0_lookUp 4 (some .int) 2 44 [.ref (ad 0), .int p1, .int p2] (bC ad t σ ++ rs) (bC ad t σ ++ rs) (some (.int q)) := by
  refine gx_intro_i (by decide) (Nat.le_of_ble_eq_true rfl) (fun J g hE0 => ?_)
  have hE : ∀ (v : Int32) (pc : Nat) (L : List (Nat × Value)), some v = some q → decode cX0_lookUp pc = .ok (.ireturn, 1) → narrow .int (.int v) = .int v → J 0 0 (bC ad t σ ++ rs) pc L [.int v] := fun v pc L h h1 h2 => by cases h; exact hE0 pc L h1 h2
  unfold fX0_lookUp at hf
  show J 0 0 (bC ad t σ ++ rs) 0 [(0, .ref (ad 0)), (1, .int p1), (2, .int p2)] []
  refine j_iload_n (pc := 0) g 1 dX0_lookUp_0 rfl ?_
  obtain ⟨r1, h_1, hf⟩ := gx_bs hf
  refine cB_X0_X0_isLetter (pc := 1) g (cX0_isLetter_ (rs := _) (ad := fun i => i) h_1) ⟨Nat.le_of_ble_eq_true rfl, Nat.le_of_ble_eq_true rfl⟩ ⟨Nat.zero_le _, Nat.zero_le _⟩ (Nat.le_of_ble_eq_true rfl) dX0_lookUp_1 ?_
  refine j_if_eq (tgt := 14) (pc := 4) g dX0_lookUp_4 (by decide) (fun c_4 => ?_) (fun c_4 => ?_)
  · have hf := gx_it c_4 hf
    refine j_bipush (v := -2) (pc := 14) g dX0_lookUp_14 (by decide) ?_
    exact hE _ _ _ hf dX0_lookUp_16 rfl
  · have hf := gx_if c_4 hf
    refine j_iload_n (pc := 7) g 2 dX0_lookUp_7 rfl ?_
    obtain ⟨r8, h_8, hf⟩ := gx_bs hf
    refine cB_X0_X0_isLetter (pc := 8) g (cX0_isLetter_ (rs := _) (ad := fun i => i) h_8) ⟨Nat.le_of_ble_eq_true rfl, Nat.le_of_ble_eq_true rfl⟩ ⟨Nat.zero_le _, Nat.zero_le _⟩ (Nat.le_of_ble_eq_true rfl) dX0_lookUp_8 ?_
    refine j_if_ne (tgt := 17) (pc := 11) g dX0_lookUp_11 (by decide) (fun c_11 => ?_) (fun c_11 => ?_)
    · have hf := gx_if c_11 hf
      refine j_aload_n (pc := 17) g 0 dX0_lookUp_17 rfl ?_
      refine j_iload_n (pc := 18) g 1 dX0_lookUp_18 rfl ?_
      refine j_iload_n (pc := 19) g 2 dX0_lookUp_19 rfl ?_
      obtain ⟨r20, h_20, hf⟩ := gx_bs hf
      refine cB_X0_X0_find_0 (σ := σ) (pc := 20) g (cX0_find_ h_20) ⟨Nat.le_of_ble_eq_true rfl, Nat.le_of_ble_eq_true rfl⟩ ⟨Nat.zero_le _, Nat.zero_le _⟩ (Nat.le_of_ble_eq_true rfl) dX0_lookUp_20 ?_
      refine j_istore_n (L' := [(3, .int r20), (0, .ref (ad 0)), (1, .int p1), (2, .int p2)]) (pc := 23) g dX0_lookUp_23 rfl (Nat.le_of_ble_eq_true rfl) rfl ?_
      refine j_iload_n (pc := 24) g 0 dX0_lookUp_24 rfl ?_
      refine j_iconst (v := -1) (pc := 25) g dX0_lookUp_25 (by decide) ?_
      refine j_icmp_ne (tgt := 34) (pc := 26) g dX0_lookUp_26 (by decide) (fun c_26 => ?_) (fun c_26 => ?_)
      · have hf := gx_if c_26 hf
        refine j_aload_n (pc := 34) g 1 dX0_lookUp_34 rfl ?_
        refine gB_X0_0_1 (σ := σ) (pc := 35) g dX0_lookUp_35 ?_
        refine j_iload_n (pc := 38) g 0 dX0_lookUp_38 rfl ?_
        obtain ⟨h_39, hf⟩ := gx_ck hf
        refine lB_X0_0_1 (σ := σ) (pc := 39) g h_39 dX0_lookUp_39 ?_
        exact hE _ _ _ hf dX0_lookUp_40 rfl
      · have hf := gx_it c_26 hf
        refine j_bipush (v := -5) (pc := 29) g dX0_lookUp_29 (by decide) ?_
        refine j_goto (tgt := 40) (pc := 31) g dX0_lookUp_31 (by decide) ?_
        exact hE _ _ _ hf dX0_lookUp_40 rfl
    · have hf := gx_it c_11 hf
      refine j_bipush (v := -2) (pc := 14) g dX0_lookUp_14 (by decide) ?_
      exact hE _ _ _ hf dX0_lookUp_16 rfl
theorem cN_X2_X2_discharge_0 {D : va_G} {t : Nat → ClassId} {aa : gx_AA} {l : Launch} {R : Room} {cc : ByteArray} {nL : Nat} {J : gx_J} {ad : Nat → Nat} {rs : va_W} {k n pc : Nat} {L : List (Nat × Value)} {rest : List Value} (g : gx_G D t (gx_E0 aa) l R cc RX2 nL J) {σ : NS} {x0 : Int32} {q : NS} {fr lo : Nat} (hC : gx_C D t (gx_E0 aa) l yX2_discharge cX2_discharge 3 none fr lo [.ref (ad 0), .int x0] (nC ad t σ ++ rs) (nC ad t q ++ rs) none) (hR : fr + 1 ≤ R.frames ∧ 8 + (3 + 11) + lo ≤ R.locals) (hkn : k ≤ R.cells ∧ n ≤ R.slots) (hcat : (rest.map fun v => v.category).sum ≤ 8) (hd : decode cc pc = .ok (.invokevirtual 85, 3)) (kk : J k n (nC ad t q ++ rs) (pc + 3) L (rest)) : J k n (nC ad t σ ++ rs) pc L (.int x0 :: .ref (ad 0) :: rest) := j_callVv (na := 1) (As := [.int x0]) (q0 := 0) (ci := 4) g hC q_i_X2_discharge q_s_X2_discharge rfl rfl rfl q_c_X2_discharge q_l_X2_85 q_n_X2 (by decide +kernel) rfl hR hkn hcat (.refl _) (.refl _) hd kk rfl
set_option maxRecDepth 100000 in
set_option maxHeartbeats 4000000 in
theorem cX2_fire_ {D : va_G} {t : Nat → ClassId} {aa : gx_AA} {l : Launch} {ad : Nat → Nat} {rs : va_W} {σ : NS} {p1 : Int32} {q : (Int32 × NS)} (hf : fX2_fire σ p1 = some q) : gx_C D t (gx_E0 aa) l yX2_fire cX2_fire 3 (some .int) 2 44 [.ref (ad 0), .int p1] (nC ad t σ ++ rs) (nC ad t q.2 ++ rs) (some (.int q.1)) := by
  refine gx_intro_i (by decide) (Nat.le_of_ble_eq_true rfl) (fun J g hE0 => ?_)
  have hE : ∀ (v : Int32) (σ : NS) (pc : Nat) (L : List (Nat × Value)), some (v, σ) = some q → decode cX2_fire pc = .ok (.ireturn, 1) → narrow .int (.int v) = .int v → J 0 0 (nC ad t σ ++ rs) pc L [.int v] := fun v σ pc L h h1 h2 => by cases h; exact hE0 pc L h1 h2
  unfold fX2_fire at hf
  show J 0 0 (nC ad t σ ++ rs) 0 [(0, .ref (ad 0)), (1, .int p1)] []
  refine j_aload_n (pc := 0) g 0 dX2_fire_0 rfl ?_
  refine gN_X2_0_0 (σ := σ) (pc := 1) g dX2_fire_1 ?_
  refine j_iload_n (pc := 4) g 1 dX2_fire_4 rfl ?_
  obtain ⟨r5, h_5, hf⟩ := gx_bs hf
  refine cN_X2_X3_serves_1 (σ := σ) (pc := 5) g (cX3_serves_ (ad := (fun p => ad (p + 1))) h_5) ⟨Nat.le_of_ble_eq_true rfl, Nat.le_of_ble_eq_true rfl⟩ ⟨Nat.zero_le _, Nat.zero_le _⟩ (Nat.le_of_ble_eq_true rfl) dX2_fire_5 ?_
  refine j_if_ne (tgt := 13) (pc := 8) g dX2_fire_8 (by decide) (fun c_8 => ?_) (fun c_8 => ?_)
  · have hf := gx_if c_8 hf
    refine j_iload_n (pc := 13) g 1 dX2_fire_13 rfl ?_
    refine j_if_ne (tgt := 20) (pc := 14) g dX2_fire_14 (by decide) (fun c_14 => ?_) (fun c_14 => ?_)
    · have hf := gx_if c_14 hf
      refine j_aload_n (pc := 20) g 0 dX2_fire_20 rfl ?_
      refine gN_X2_0_0 (σ := σ) (pc := 21) g dX2_fire_21 ?_
      refine j_iload_n (pc := 24) g 1 dX2_fire_24 rfl ?_
      obtain ⟨r25, h_25, hf⟩ := gx_bs hf
      refine cN_X2_X3_countSubordinates_1 (σ := σ) (pc := 25) g (cX3_countSubordinates_ (ad := (fun p => ad (p + 1))) h_25) ⟨Nat.le_of_ble_eq_true rfl, Nat.le_of_ble_eq_true rfl⟩ ⟨Nat.zero_le _, Nat.zero_le _⟩ (Nat.le_of_ble_eq_true rfl) dX2_fire_25 ?_
      refine j_istore_n (L' := [(2, .int r25), (0, .ref (ad 0)), (1, .int p1)]) (pc := 28) g dX2_fire_28 rfl (Nat.le_of_ble_eq_true rfl) rfl ?_
      refine j_aload_n (pc := 29) g 1 dX2_fire_29 rfl ?_
      refine j_iload_n (pc := 30) g 2 dX2_fire_30 rfl ?_
      obtain ⟨r31, h_31, hf⟩ := gx_bs hf
      refine cN_X2_X2_discharge_0 (σ := σ) (pc := 31) g (cX2_discharge_ h_31) ⟨Nat.le_of_ble_eq_true rfl, Nat.le_of_ble_eq_true rfl⟩ ⟨Nat.zero_le _, Nat.zero_le _⟩ (Nat.le_of_ble_eq_true rfl) dX2_fire_31 ?_
      refine j_iload_n (pc := 34) g 0 dX2_fire_34 rfl ?_
      exact hE _ _ _ _ hf dX2_fire_35 rfl
    · have hf := gx_it c_14 hf
      refine j_bipush (v := -2) (pc := 17) g dX2_fire_17 (by decide) ?_
      exact hE _ _ _ _ hf dX2_fire_19 rfl
  · have hf := gx_it c_8 hf
    refine j_iconst (v := -1) (pc := 11) g dX2_fire_11 (by decide) ?_
    exact hE _ _ _ _ hf dX2_fire_12 rfl

set_option maxRecDepth 100000 in
set_option maxHeartbeats 4000000 in
theorem cX2_visitNext_ {D : va_G} {t : Nat → ClassId} {aa : gx_AA} {l : Launch} {ad : Nat → Nat} {rs : va_W} {σ : NS} {q : NS} (hf : fX2_visitNext σ = some q) : gx_C D t (gx_E0 aa) l yX2_visitNext cX2_visitNext 4 none 2 44 [.ref (ad 0)] (nC ad t σ ++ rs) (nC ad t q ++ rs) none := by
  refine gx_intro_v (by decide) (Nat.le_of_ble_eq_true rfl) (fun J g hE0 => ?_)
  have hE : ∀ (σ : NS) (pc : Nat) (L : List (Nat × Value)), some σ = some q → decode cX2_visitNext pc = .ok (.return_, 1) → J 0 0 (nC ad t σ ++ rs) pc L [] := fun σ pc L h h1 => by cases h; exact hE0 pc L h1
  unfold fX2_visitNext at hf
  show J 0 0 (nC ad t σ ++ rs) 0 [(0, .ref (ad 0))] []
  refine j_aload_n (pc := 0) g 0 dX2_visitNext_0 rfl ?_
  refine gN_X2_0_1 (σ := σ) (pc := 1) g dX2_visitNext_1 ?_
  refine gN_X2_2_4 (σ := σ) (pc := 4) g dX2_visitNext_4 ?_
  refine j_istore_n (L' := [(1, .int (os_f σ.2.2.1 4)), (0, .ref (ad 0))]) (pc := 7) g dX2_visitNext_7 rfl (Nat.le_of_ble_eq_true rfl) rfl ?_
  refine j_aload_n (pc := 8) g 1 dX2_visitNext_8 rfl ?_
  refine gN_X2_0_1 (σ := σ) (pc := 9) g dX2_visitNext_9 ?_
  refine gN_X2_2_1 (σ := σ) (pc := 12) g dX2_visitNext_12 ?_
  refine j_iload_n (pc := 15) g 0 dX2_visitNext_15 rfl ?_
  obtain ⟨h_16, hf⟩ := gx_ck hf
  refine lN_X2_2_1 (σ := σ) (pc := 16) g h_16 dX2_visitNext_16 ?_
  refine j_istore_n (L' := [(2, .int (os_a σ.2.2.1 1 (os_f σ.2.2.1 4).toNatClampNeg)), (1, .int (os_f σ.2.2.1 4)), (0, .ref (ad 0))]) (pc := 17) g dX2_visitNext_17 rfl (Nat.le_of_ble_eq_true rfl) rfl ?_
  refine j_aload_n (pc := 18) g 2 dX2_visitNext_18 rfl ?_
  refine gN_X2_0_0 (σ := σ) (pc := 19) g dX2_visitNext_19 ?_
  refine j_aload_n (pc := 22) g 2 dX2_visitNext_22 rfl ?_
  refine gN_X2_0_1 (σ := σ) (pc := 23) g dX2_visitNext_23 ?_
  refine gN_X2_2_0 (σ := σ) (pc := 26) g dX2_visitNext_26 ?_
  refine j_iload_n (pc := 29) g 1 dX2_visitNext_29 rfl ?_
  obtain ⟨h_30, hf⟩ := gx_ck hf
  refine lN_X2_2_0 (σ := σ) (pc := 30) g h_30 dX2_visitNext_30 ?_
  refine j_iload_n (pc := 31) g 0 dX2_visitNext_31 rfl ?_
  obtain ⟨r32, h_32, hf⟩ := gx_bs hf
  refine cN_X2_X3_nextOnWay_1 (σ := σ) (pc := 32) g (cX3_nextOnWay_ (ad := (fun p => ad (p + 1))) h_32) ⟨Nat.le_of_ble_eq_true rfl, Nat.le_of_ble_eq_true rfl⟩ ⟨Nat.zero_le _, Nat.zero_le _⟩ (Nat.le_of_ble_eq_true rfl) dX2_visitNext_32 ?_
  refine j_istore_n (L' := [(3, .int r32), (2, .int (os_a σ.2.2.1 1 (os_f σ.2.2.1 4).toNatClampNeg)), (1, .int (os_f σ.2.2.1 4)), (0, .ref (ad 0))]) (pc := 35) g dX2_visitNext_35 rfl (Nat.le_of_ble_eq_true rfl) rfl ?_
  refine j_iload_n (pc := 36) g 0 dX2_visitNext_36 rfl ?_
  refine j_iconst (v := -1) (pc := 37) g dX2_visitNext_37 (by decide) ?_
  refine j_icmp_ne (tgt := 62) (pc := 38) g dX2_visitNext_38 (by decide) (fun c_38 => ?_) (fun c_38 => ?_)
  · have hf := gx_if c_38 hf
    refine j_aload_n (pc := 62) g 3 dX2_visitNext_62 rfl ?_
    refine gN_X2_0_0 (σ := σ) (pc := 63) g dX2_visitNext_63 ?_
    refine gN_X2_1_1 (σ := σ) (pc := 66) g dX2_visitNext_66 ?_
    refine j_iload_n (pc := 69) g 0 dX2_visitNext_69 rfl ?_
    obtain ⟨h_70, hf⟩ := gx_ck hf
    refine lN_X2_1_1 (σ := σ) (pc := 70) g h_70 dX2_visitNext_70 ?_
    refine j_aload_n (pc := 71) g 3 dX2_visitNext_71 rfl ?_
    refine gN_X2_0_1 (σ := σ) (pc := 72) g dX2_visitNext_72 ?_
    refine gN_X2_2_2 (σ := σ) (pc := 75) g dX2_visitNext_75 ?_
    refine j_iload_n (pc := 78) g 2 dX2_visitNext_78 rfl ?_
    obtain ⟨h_79, hf⟩ := gx_ck hf
    refine lN_X2_2_2 (σ := σ) (pc := 79) g h_79 dX2_visitNext_79 ?_
    refine j_icmp_ge (tgt := 135) (pc := 80) g dX2_visitNext_80 (by decide) (fun c_80 => ?_) (fun c_80 => ?_)
    · have hf := gx_it c_80 hf
      refine j_iload_n (pc := 135) g 0 dX2_visitNext_135 rfl ?_
      refine j_iload_n (pc := 136) g 1 dX2_visitNext_136 rfl ?_
      refine j_icmp_ne (tgt := 186) (pc := 137) g dX2_visitNext_137 (by decide) (fun c_137 => ?_) (fun c_137 => ?_)
      · have hf := gx_if c_137 hf
        refine j_aload_n (pc := 186) g 3 dX2_visitNext_186 rfl ?_
        refine gN_X2_0_1 (σ := σ) (pc := 187) g dX2_visitNext_187 ?_
        refine gN_X2_2_0 (σ := σ) (pc := 190) g dX2_visitNext_190 ?_
        refine j_iload_n (pc := 193) g 2 dX2_visitNext_193 rfl ?_
        refine j_iload_n (pc := 194) g 0 dX2_visitNext_194 rfl ?_
        obtain ⟨h_195, hf⟩ := gx_ck hf
        refine sN_X2_2_0 (σ := σ) (pc := 195) g h_195 dX2_visitNext_195 ?_
        refine j_aload_n (pc := 196) g 3 dX2_visitNext_196 rfl ?_
        refine gN_X2_0_1 (σ := (σ.1, σ.2.1, os_sa σ.2.2.1 0 (os_f σ.2.2.1 4).toNatClampNeg r32, σ.2.2.2)) (pc := 197) g dX2_visitNext_197 ?_
        refine j_dup (pc := 200) g dX2_visitNext_200 rfl ?_
        refine gN_X2_2_4 (σ := (σ.1, σ.2.1, os_sa σ.2.2.1 0 (os_f σ.2.2.1 4).toNatClampNeg r32, σ.2.2.2)) (pc := 201) g dX2_visitNext_201 ?_
        refine j_iconst (v := 1) (pc := 204) g dX2_visitNext_204 (by decide) ?_
        refine j_iadd (pc := 205) g dX2_visitNext_205 ?_
        refine pN_X2_2_4 (σ := (σ.1, σ.2.1, os_sa σ.2.2.1 0 (os_f σ.2.2.1 4).toNatClampNeg r32, σ.2.2.2)) (pc := 206) g dX2_visitNext_206 ?_
        exact hE _ _ _ hf dX2_visitNext_209
      · have hf := gx_it c_137 hf
        refine j_aload_n (pc := 140) g 3 dX2_visitNext_140 rfl ?_
        refine gN_X2_0_1 (σ := σ) (pc := 141) g dX2_visitNext_141 ?_
        refine j_iload_n (pc := 144) g 2 dX2_visitNext_144 rfl ?_
        obtain ⟨r145, h_145, hf⟩ := gx_bs hf
        refine cN_X2_X4_remove_2 (σ := σ) (pc := 145) g (cX4_remove_ (ad := (fun p => ad (p + 7))) h_145) ⟨Nat.le_of_ble_eq_true rfl, Nat.le_of_ble_eq_true rfl⟩ ⟨Nat.zero_le _, Nat.zero_le _⟩ (Nat.le_of_ble_eq_true rfl) dX2_visitNext_145 ?_
        refine j_aload_n (pc := 148) g 3 dX2_visitNext_148 rfl ?_
        refine j_dup (pc := 149) g dX2_visitNext_149 rfl ?_
        refine gN_X2_0_4 (σ := (σ.1, σ.2.1, r145, σ.2.2.2)) (pc := 150) g dX2_visitNext_150 ?_
        refine j_iconst (v := 1) (pc := 153) g dX2_visitNext_153 (by decide) ?_
        refine j_iadd (pc := 154) g dX2_visitNext_154 ?_
        refine pN_X2_0_4 (σ := (σ.1, σ.2.1, r145, σ.2.2.2)) (pc := 155) g dX2_visitNext_155 ?_
        refine j_aload_n (pc := 158) g 3 dX2_visitNext_158 rfl ?_
        refine gN_X2_0_0 (σ := (os_sf σ.1 4 ((os_f σ.1 4) + (1 : Int32)), (σ.2.1, r145, σ.2.2.2))) (pc := 159) g dX2_visitNext_159 ?_
        refine gN_X2_1_1 (σ := (os_sf σ.1 4 ((os_f σ.1 4) + (1 : Int32)), (σ.2.1, r145, σ.2.2.2))) (pc := 162) g dX2_visitNext_162 ?_
        refine j_iload_n (pc := 165) g 0 dX2_visitNext_165 rfl ?_
        refine j_bipush (v := 100) (pc := 166) g dX2_visitNext_166 (by decide) ?_
        refine j_aload_n (pc := 168) g 3 dX2_visitNext_168 rfl ?_
        refine gN_X2_0_0 (σ := (os_sf σ.1 4 ((os_f σ.1 4) + (1 : Int32)), (σ.2.1, r145, σ.2.2.2))) (pc := 169) g dX2_visitNext_169 ?_
        refine gN_X2_1_1 (σ := (os_sf σ.1 4 ((os_f σ.1 4) + (1 : Int32)), (σ.2.1, r145, σ.2.2.2))) (pc := 172) g dX2_visitNext_172 ?_
        refine j_iload_n (pc := 175) g 0 dX2_visitNext_175 rfl ?_
        obtain ⟨h_176, hf⟩ := gx_ck hf
        refine lN_X2_1_1 (σ := (os_sf σ.1 4 ((os_f σ.1 4) + (1 : Int32)), (σ.2.1, r145, σ.2.2.2))) (pc := 176) g h_176 dX2_visitNext_176 ?_
        refine j_iconst (v := 2) (pc := 177) g dX2_visitNext_177 (by decide) ?_
        refine j_iadd (pc := 178) g dX2_visitNext_178 ?_
        refine j_min (pc := 179) g q_l_X2_121 q_t_mathmin q_n_math q_c_mathmin (Nat.le_of_ble_eq_true rfl) (Nat.le_of_ble_eq_true rfl) ⟨Nat.zero_le _, Nat.zero_le _⟩ dX2_visitNext_179 ?_
        obtain ⟨h_182, hf⟩ := gx_ck hf
        refine sN_X2_1_1 (σ := (os_sf σ.1 4 ((os_f σ.1 4) + (1 : Int32)), (σ.2.1, r145, σ.2.2.2))) (pc := 182) g h_182 dX2_visitNext_182 ?_
        refine j_goto (tgt := 209) (pc := 183) g dX2_visitNext_183 (by decide) ?_
        exact hE _ _ _ hf dX2_visitNext_209
    · have hf := gx_if c_80 hf
      refine j_aload_n (pc := 83) g 3 dX2_visitNext_83 rfl ?_
      refine gN_X2_0_1 (σ := σ) (pc := 84) g dX2_visitNext_84 ?_
      refine j_iload_n (pc := 87) g 2 dX2_visitNext_87 rfl ?_
      obtain ⟨r88, h_88, hf⟩ := gx_bs hf
      refine cN_X2_X4_remove_2 (σ := σ) (pc := 88) g (cX4_remove_ (ad := (fun p => ad (p + 7))) h_88) ⟨Nat.le_of_ble_eq_true rfl, Nat.le_of_ble_eq_true rfl⟩ ⟨Nat.zero_le _, Nat.zero_le _⟩ (Nat.le_of_ble_eq_true rfl) dX2_visitNext_88 ?_
      refine j_aload_n (pc := 91) g 3 dX2_visitNext_91 rfl ?_
      refine j_dup (pc := 92) g dX2_visitNext_92 rfl ?_
      refine gN_X2_0_5 (σ := (σ.1, σ.2.1, r88, σ.2.2.2)) (pc := 93) g dX2_visitNext_93 ?_
      refine j_iconst (v := 1) (pc := 96) g dX2_visitNext_96 (by decide) ?_
      refine j_iadd (pc := 97) g dX2_visitNext_97 ?_
      refine pN_X2_0_5 (σ := (σ.1, σ.2.1, r88, σ.2.2.2)) (pc := 98) g dX2_visitNext_98 ?_
      refine j_aload_n (pc := 101) g 3 dX2_visitNext_101 rfl ?_
      refine gN_X2_0_0 (σ := (os_sf σ.1 5 ((os_f σ.1 5) + (1 : Int32)), (σ.2.1, r88, σ.2.2.2))) (pc := 102) g dX2_visitNext_102 ?_
      refine gN_X2_1_2 (σ := (os_sf σ.1 5 ((os_f σ.1 5) + (1 : Int32)), (σ.2.1, r88, σ.2.2.2))) (pc := 105) g dX2_visitNext_105 ?_
      refine j_iload_n (pc := 108) g 0 dX2_visitNext_108 rfl ?_
      refine j_dup2 (pc := 109) g dX2_visitNext_109 rfl rfl ?_
      obtain ⟨h_110, hf⟩ := gx_ck hf
      refine lN_X2_1_2 (σ := (os_sf σ.1 5 ((os_f σ.1 5) + (1 : Int32)), (σ.2.1, r88, σ.2.2.2))) (pc := 110) g h_110 dX2_visitNext_110 ?_
      refine j_iconst (v := 1) (pc := 111) g dX2_visitNext_111 (by decide) ?_
      refine j_iadd (pc := 112) g dX2_visitNext_112 ?_
      obtain ⟨h_113, hf⟩ := gx_ck hf
      refine sN_X2_1_2 (σ := (os_sf σ.1 5 ((os_f σ.1 5) + (1 : Int32)), (σ.2.1, r88, σ.2.2.2))) (pc := 113) g h_113 dX2_visitNext_113 ?_
      refine j_aload_n (pc := 114) g 3 dX2_visitNext_114 rfl ?_
      refine gN_X2_0_0 (σ := ((os_sf σ.1 5 ((os_f σ.1 5) + (1 : Int32))), os_sa σ.2.1 2 r32.toNatClampNeg ((os_a σ.2.1 2 r32.toNatClampNeg) + (1 : Int32)), (r88, σ.2.2.2))) (pc := 115) g dX2_visitNext_115 ?_
      refine gN_X2_1_2 (σ := ((os_sf σ.1 5 ((os_f σ.1 5) + (1 : Int32))), os_sa σ.2.1 2 r32.toNatClampNeg ((os_a σ.2.1 2 r32.toNatClampNeg) + (1 : Int32)), (r88, σ.2.2.2))) (pc := 118) g dX2_visitNext_118 ?_
      refine j_iload_n (pc := 121) g 0 dX2_visitNext_121 rfl ?_
      obtain ⟨h_122, hf⟩ := gx_ck hf
      refine lN_X2_1_2 (σ := ((os_sf σ.1 5 ((os_f σ.1 5) + (1 : Int32))), os_sa σ.2.1 2 r32.toNatClampNeg ((os_a σ.2.1 2 r32.toNatClampNeg) + (1 : Int32)), (r88, σ.2.2.2))) (pc := 122) g h_122 dX2_visitNext_122 ?_
      refine j_iconst (v := 3) (pc := 123) g dX2_visitNext_123 (by decide) ?_
      refine j_icmp_lt (tgt := 209) (pc := 124) g dX2_visitNext_124 (by decide) (fun c_124 => ?_) (fun c_124 => ?_)
      · have hf := gx_it c_124 hf
        exact hE _ _ _ hf dX2_visitNext_209
      · have hf := gx_if c_124 hf
        refine j_aload_n (pc := 127) g 3 dX2_visitNext_127 rfl ?_
        refine j_iload_n (pc := 128) g 0 dX2_visitNext_128 rfl ?_
        obtain ⟨r129, h_129, hf⟩ := gx_bs hf
        refine cN_X2_X2_discharge_0 (σ := ((os_sf σ.1 5 ((os_f σ.1 5) + (1 : Int32))), os_sa σ.2.1 2 r32.toNatClampNeg ((os_a σ.2.1 2 r32.toNatClampNeg) + (1 : Int32)), (r88, σ.2.2.2))) (pc := 129) g (cX2_discharge_ h_129) ⟨Nat.le_of_ble_eq_true rfl, Nat.le_of_ble_eq_true rfl⟩ ⟨Nat.zero_le _, Nat.zero_le _⟩ (Nat.le_of_ble_eq_true rfl) dX2_visitNext_129 ?_
        refine j_goto (tgt := 209) (pc := 132) g dX2_visitNext_132 (by decide) ?_
        exact hE _ _ _ hf dX2_visitNext_209
  · have hf := gx_it c_38 hf
    refine j_aload_n (pc := 41) g 3 dX2_visitNext_41 rfl ?_
    refine gN_X2_0_1 (σ := σ) (pc := 42) g dX2_visitNext_42 ?_
    refine j_iload_n (pc := 45) g 2 dX2_visitNext_45 rfl ?_
    obtain ⟨r46, h_46, hf⟩ := gx_bs hf
    refine cN_X2_X4_remove_2 (σ := σ) (pc := 46) g (cX4_remove_ (ad := (fun p => ad (p + 7))) h_46) ⟨Nat.le_of_ble_eq_true rfl, Nat.le_of_ble_eq_true rfl⟩ ⟨Nat.zero_le _, Nat.zero_le _⟩ (Nat.le_of_ble_eq_true rfl) dX2_visitNext_46 ?_
    refine j_aload_n (pc := 49) g 3 dX2_visitNext_49 rfl ?_
    refine j_dup (pc := 50) g dX2_visitNext_50 rfl ?_
    refine gN_X2_0_6 (σ := (σ.1, σ.2.1, r46, σ.2.2.2)) (pc := 51) g dX2_visitNext_51 ?_
    refine j_iconst (v := 1) (pc := 54) g dX2_visitNext_54 (by decide) ?_
    refine j_iadd (pc := 55) g dX2_visitNext_55 ?_
    refine pN_X2_0_6 (σ := (σ.1, σ.2.1, r46, σ.2.2.2)) (pc := 56) g dX2_visitNext_56 ?_
    refine j_goto (tgt := 209) (pc := 59) g dX2_visitNext_59 (by decide) ?_
    exact hE _ _ _ hf dX2_visitNext_209
theorem cO_X3_X3_countBefore_0 {D : va_G} {t : Nat → ClassId} {aa : gx_AA} {l : Launch} {R : Room} {cc : ByteArray} {nL : Nat} {J : gx_J} {ad : Nat → Nat} {rs : va_W} {k n pc : Nat} {L : List (Nat × Value)} {rest : List Value} (g : gx_G D t (gx_E0 aa) l R cc RX3 nL J) {σ : OS} {x0 : Int32} {q : Int32} {fr lo : Nat} (hC : gx_C D t (gx_E0 aa) l yX3_countBefore cX3_countBefore 4 (some .int) fr lo [.ref (ad 0), .int x0] (oC ad t σ ++ rs) (oC ad t σ ++ rs) (some (.int q))) (hR : fr + 1 ≤ R.frames ∧ 8 + (4 + 11) + lo ≤ R.locals) (hkn : k ≤ R.cells ∧ n ≤ R.slots) (hcat : (rest.map fun v => v.category).sum ≤ 8) (hd : decode cc pc = .ok (.invokevirtual 83, 3)) (kk : J k n (oC ad t σ ++ rs) (pc + 3) L (.int q :: rest)) : J k n (oC ad t σ ++ rs) pc L (.int x0 :: .ref (ad 0) :: rest) := j_callVi (na := 1) (As := [.int x0]) (q0 := 0) (ci := 5) g hC q_i_X3_countBefore q_s_X3_countBefore rfl rfl rfl q_c_X3_countBefore q_l_X3_83 q_n_X3 (by decide +kernel) rfl hR hkn hcat (.refl _) (.refl _) hd kk rfl
set_option maxRecDepth 100000 in
set_option maxHeartbeats 4000000 in
theorem tX3_atPlace_2 {D : va_G} {t : Nat → ClassId} {aa : gx_AA} {l : Launch} {J : gx_J} {ad : Nat → Nat} {rs : va_W} {σ : OS} {q : Int32} (g : gx_G D t (gx_E0 aa) l ({ frames := 2, cells := 0, slots := 0, locals := 45 }) cX3_atPlace RX3 3 J) (hE : ∀ (v : Int32) (pc : Nat) (L : List (Nat × Value)), some v = some q → decode cX3_atPlace pc = .ok (.ireturn, 1) → narrow .int (.int v) = .int v → J 0 0 (oC ad t σ ++ rs) pc L [.int v])  : ∀ (n : Nat) (v1 : Int32) (v2 : Int32), fX3_atPlace_2 σ n v1 v2 = some q → J 0 0 (oC ad t σ ++ rs) 2 [(0, .ref (ad 0)), (1, .int v1), (2, .int v2)] [] := by
  intro n
  induction n with
  | zero => intro v1 v2 hf; cases hf
  | succ n ih =>
    intro v1 v2 hf
    replace hf := (fX3_atPlace_2_s σ n v1 v2).symm.trans hf
    refine j_iload_n (pc := 2) g 2 dX3_atPlace_2 rfl ?_
    refine j_aload_n (pc := 3) g 0 dX3_atPlace_3 rfl ?_
    refine gO_X3_0_5 (σ := σ) (pc := 4) g dX3_atPlace_4 ?_
    refine j_icmp_ge (tgt := 36) (pc := 7) g dX3_atPlace_7 (by decide) (fun c_7 => ?_) (fun c_7 => ?_)
    · have hf := gx_it c_7 hf
      refine j_iconst (v := -1) (pc := 36) g dX3_atPlace_36 (by decide) ?_
      exact hE _ _ _ hf dX3_atPlace_37 rfl
    · have hf := gx_if c_7 hf
      refine j_aload_n (pc := 10) g 0 dX3_atPlace_10 rfl ?_
      refine gO_X3_0_4 (σ := σ) (pc := 11) g dX3_atPlace_11 ?_
      refine j_iload_n (pc := 14) g 2 dX3_atPlace_14 rfl ?_
      obtain ⟨h_15, hf⟩ := gx_ck hf
      refine lO_X3_0_4 (σ := σ) (pc := 15) g h_15 dX3_atPlace_15 ?_
      refine j_if_eq (tgt := 30) (pc := 16) g dX3_atPlace_16 (by decide) (fun c_16 => ?_) (fun c_16 => ?_)
      · have hf := gx_it c_16 hf
        refine j_iinc (v := v2 + 1) (L' := [(2, .int (v2 + 1)), (0, .ref (ad 0)), (1, .int v1)]) (pc := 30) g 2 dX3_atPlace_30 rfl rfl (Nat.le_of_ble_eq_true rfl) rfl ?_
        refine j_goto (tgt := 2) (pc := 33) g dX3_atPlace_33 (by decide) ?_
        refine j_sub (pc := 2) g [1, 2, 0] rfl ?_
        exact ih v1 (v2 + 1) hf
      · have hf := gx_if c_16 hf
        refine j_aload_n (pc := 19) g 0 dX3_atPlace_19 rfl ?_
        refine j_iload_n (pc := 20) g 2 dX3_atPlace_20 rfl ?_
        obtain ⟨r21, h_21, hf⟩ := gx_bs hf
        refine cO_X3_X3_countBefore_0 (σ := σ) (pc := 21) g (cX3_countBefore_ h_21) ⟨Nat.le_of_ble_eq_true rfl, Nat.le_of_ble_eq_true rfl⟩ ⟨Nat.zero_le _, Nat.zero_le _⟩ (Nat.le_of_ble_eq_true rfl) dX3_atPlace_21 ?_
        refine j_iload_n (pc := 24) g 1 dX3_atPlace_24 rfl ?_
        refine j_icmp_ne (tgt := 30) (pc := 25) g dX3_atPlace_25 (by decide) (fun c_25 => ?_) (fun c_25 => ?_)
        · have hf := gx_if c_25 hf
          refine j_iinc (v := v2 + 1) (L' := [(2, .int (v2 + 1)), (0, .ref (ad 0)), (1, .int v1)]) (pc := 30) g 2 dX3_atPlace_30 rfl rfl (Nat.le_of_ble_eq_true rfl) rfl ?_
          refine j_goto (tgt := 2) (pc := 33) g dX3_atPlace_33 (by decide) ?_
          refine j_sub (pc := 2) g [1, 2, 0] rfl ?_
          exact ih v1 (v2 + 1) hf
        · have hf := gx_it c_25 hf
          refine j_iload_n (pc := 28) g 2 dX3_atPlace_28 rfl ?_
          exact hE _ _ _ hf dX3_atPlace_29 rfl
set_option maxRecDepth 100000 in
set_option maxHeartbeats 4000000 in
theorem cX3_atPlace_ {D : va_G} {t : Nat → ClassId} {aa : gx_AA} {l : Launch} {ad : Nat → Nat} {rs : va_W} {σ : OS} {p1 : Int32} {q : Int32} (hf : fX3_atPlace σ p1 = some q) : gx_C D t (gx_E0 aa) l yX3_atPlace cX3_atPlace 3 (some .int) 2 45 [.ref (ad 0), .int p1] (oC ad t σ ++ rs) (oC ad t σ ++ rs) (some (.int q)) := by
  refine gx_intro_i (by decide) (Nat.le_of_ble_eq_true rfl) (fun J g hE0 => ?_)
  have hE : ∀ (v : Int32) (pc : Nat) (L : List (Nat × Value)), some v = some q → decode cX3_atPlace pc = .ok (.ireturn, 1) → narrow .int (.int v) = .int v → J 0 0 (oC ad t σ ++ rs) pc L [.int v] := fun v pc L h h1 h2 => by cases h; exact hE0 pc L h1 h2
  unfold fX3_atPlace at hf
  show J 0 0 (oC ad t σ ++ rs) 0 [(0, .ref (ad 0)), (1, .int p1)] []
  refine j_iconst (v := 0) (pc := 0) g dX3_atPlace_0 (by decide) ?_
  refine j_istore_n (L' := [(2, .int (0 : Int32)), (0, .ref (ad 0)), (1, .int p1)]) (pc := 1) g dX3_atPlace_1 rfl (Nat.le_of_ble_eq_true rfl) rfl ?_
  refine j_sub (pc := 2) g [1, 2, 0] rfl ?_
  exact tX3_atPlace_2 g hE 2000 p1 (0 : Int32) hf
theorem cB_X0_X0_lookUp_0 {D : va_G} {t : Nat → ClassId} {aa : gx_AA} {l : Launch} {R : Room} {cc : ByteArray} {nL : Nat} {J : gx_J} {ad : Nat → Nat} {rs : va_W} {k n pc : Nat} {L : List (Nat × Value)} {rest : List Value} (g : gx_G D t (gx_E0 aa) l R cc RX0 nL J) {σ : OS} {x0 x1 : Int32} {q : Int32} {fr lo : Nat} (hC : gx_C D t (gx_E0 aa) l yX0_lookUp cX0_lookUp 4 (some .int) fr lo [.ref (ad 0), .int x0, .int x1] (bC ad t σ ++ rs) (bC ad t σ ++ rs) (some (.int q))) (hR : fr + 1 ≤ R.frames ∧ 8 + (4 + 11) + lo ≤ R.locals) (hkn : k ≤ R.cells ∧ n ≤ R.slots) (hcat : (rest.map fun v => v.category).sum ≤ 8) (hd : decode cc pc = .ok (.invokevirtual 39, 3)) (kk : J k n (bC ad t σ ++ rs) (pc + 3) L (.int q :: rest)) : J k n (bC ad t σ ++ rs) pc L (.int x1 :: .int x0 :: .ref (ad 0) :: rest) := j_callVi (na := 2) (As := [.int x0, .int x1]) (q0 := 0) (ci := 2) g hC q_i_X0_lookUp q_s_X0_lookUp rfl rfl rfl q_c_X0_lookUp q_l_X0_39 q_n_X0 (by decide +kernel) rfl hR hkn hcat (.refl _) (.refl _) hd kk rfl
set_option maxRecDepth 100000 in
set_option maxHeartbeats 4000000 in
theorem cX0_remove_ {D : va_G} {t : Nat → ClassId} {aa : gx_AA} {l : Launch} {ad : Nat → Nat} {rs : va_W} {σ : OS} {p1 : Int32} {p2 : Int32} {q : (Int32 × OS)} (hf : fX0_remove σ p1 p2 = some q) : gx_C D t (gx_E0 aa) l yX0_remove cX0_remove 5 (some .int) 3 67 [.ref (ad 0), .int p1, .int p2] (bC ad t σ ++ rs) (bC ad t q.2 ++ rs) (some (.int q.1)) := by
  refine gx_intro_i (by decide) (Nat.le_of_ble_eq_true rfl) (fun J g hE0 => ?_)
  have hE : ∀ (v : Int32) (σ : OS) (pc : Nat) (L : List (Nat × Value)), some (v, σ) = some q → decode cX0_remove pc = .ok (.ireturn, 1) → narrow .int (.int v) = .int v → J 0 0 (bC ad t σ ++ rs) pc L [.int v] := fun v σ pc L h h1 h2 => by cases h; exact hE0 pc L h1 h2
  unfold fX0_remove at hf
  show J 0 0 (bC ad t σ ++ rs) 0 [(0, .ref (ad 0)), (1, .int p1), (2, .int p2)] []
  refine j_aload_n (pc := 0) g 0 dX0_remove_0 rfl ?_
  refine j_iload_n (pc := 1) g 1 dX0_remove_1 rfl ?_
  refine j_iload_n (pc := 2) g 2 dX0_remove_2 rfl ?_
  obtain ⟨r3, h_3, hf⟩ := gx_bs hf
  refine cB_X0_X0_lookUp_0 (σ := σ) (pc := 3) g (cX0_lookUp_ h_3) ⟨Nat.le_of_ble_eq_true rfl, Nat.le_of_ble_eq_true rfl⟩ ⟨Nat.zero_le _, Nat.zero_le _⟩ (Nat.le_of_ble_eq_true rfl) dX0_remove_3 ?_
  refine j_istore_n (L' := [(3, .int r3), (0, .ref (ad 0)), (1, .int p1), (2, .int p2)]) (pc := 6) g dX0_remove_6 rfl (Nat.le_of_ble_eq_true rfl) rfl ?_
  refine j_aload_n (pc := 7) g 1 dX0_remove_7 rfl ?_
  refine j_iload_n (pc := 8) g 2 dX0_remove_8 rfl ?_
  refine j_iload_n (pc := 9) g 3 dX0_remove_9 rfl ?_
  obtain ⟨r10, h_10, hf⟩ := gx_bs hf
  refine cB_X0_X0_find_0 (σ := σ) (pc := 10) g (cX0_find_ h_10) ⟨Nat.le_of_ble_eq_true rfl, Nat.le_of_ble_eq_true rfl⟩ ⟨Nat.zero_le _, Nat.zero_le _⟩ (Nat.le_of_ble_eq_true rfl) dX0_remove_10 ?_
  refine j_istore (L' := [(4, .int r10), (3, .int r3), (0, .ref (ad 0)), (1, .int p1), (2, .int p2)]) (pc := 13) g dX0_remove_13 (Nat.le_of_ble_eq_true rfl) rfl ?_
  refine j_iload_n (pc := 15) g 1 dX0_remove_15 rfl ?_
  refine j_if_lt (tgt := 67) (pc := 16) g dX0_remove_16 (by decide) (fun c_16 => ?_) (fun c_16 => ?_)
  · have hf := gx_it c_16 hf
    refine j_iload_n (pc := 67) g 1 dX0_remove_67 rfl ?_
    exact hE _ _ _ _ hf dX0_remove_68 rfl
  · have hf := gx_if c_16 hf
    refine j_iload (pc := 19) g 0 dX0_remove_19 rfl ?_
    refine j_iconst (v := -1) (pc := 21) g dX0_remove_21 (by decide) ?_
    refine j_icmp_eq (tgt := 67) (pc := 22) g dX0_remove_22 (by decide) (fun c_22 => ?_) (fun c_22 => ?_)
    · have hf := gx_it c_22 hf
      refine j_iload_n (pc := 67) g 1 dX0_remove_67 rfl ?_
      exact hE _ _ _ _ hf dX0_remove_68 rfl
    · have hf := gx_if c_22 hf
      refine j_aload_n (pc := 25) g 2 dX0_remove_25 rfl ?_
      refine j_dup (pc := 26) g dX0_remove_26 rfl ?_
      refine gB_X0_0_2 (σ := σ) (pc := 27) g dX0_remove_27 ?_
      refine j_iconst (v := 1) (pc := 30) g dX0_remove_30 (by decide) ?_
      refine j_isub (pc := 31) g dX0_remove_31 ?_
      refine pB_X0_0_2 (σ := σ) (pc := 32) g dX0_remove_32 ?_
      refine j_aload_n (pc := 35) g 2 dX0_remove_35 rfl ?_
      refine gB_X0_0_0 (σ := os_sf σ 2 ((os_f σ 2) - (1 : Int32))) (pc := 36) g dX0_remove_36 ?_
      refine j_iload (pc := 39) g 0 dX0_remove_39 rfl ?_
      refine j_aload_n (pc := 41) g 2 dX0_remove_41 rfl ?_
      refine gB_X0_0_0 (σ := os_sf σ 2 ((os_f σ 2) - (1 : Int32))) (pc := 42) g dX0_remove_42 ?_
      refine j_aload_n (pc := 45) g 2 dX0_remove_45 rfl ?_
      refine gB_X0_0_2 (σ := os_sf σ 2 ((os_f σ 2) - (1 : Int32))) (pc := 46) g dX0_remove_46 ?_
      obtain ⟨h_49, hf⟩ := gx_ck hf
      refine lB_X0_0_0 (σ := os_sf σ 2 ((os_f σ 2) - (1 : Int32))) (pc := 49) g h_49 dX0_remove_49 ?_
      obtain ⟨h_50, hf⟩ := gx_ck hf
      refine sB_X0_0_0 (σ := os_sf σ 2 ((os_f σ 2) - (1 : Int32))) (pc := 50) g h_50 dX0_remove_50 ?_
      refine j_aload_n (pc := 51) g 2 dX0_remove_51 rfl ?_
      refine gB_X0_0_1 (σ := os_sa (os_sf σ 2 ((os_f σ 2) - (1 : Int32))) 0 r10.toNatClampNeg (os_a (os_sf σ 2 ((os_f σ 2) - (1 : Int32))) 0 (os_f (os_sf σ 2 ((os_f σ 2) - (1 : Int32))) 2).toNatClampNeg)) (pc := 52) g dX0_remove_52 ?_
      refine j_iload (pc := 55) g 0 dX0_remove_55 rfl ?_
      refine j_aload_n (pc := 57) g 2 dX0_remove_57 rfl ?_
      refine gB_X0_0_1 (σ := os_sa (os_sf σ 2 ((os_f σ 2) - (1 : Int32))) 0 r10.toNatClampNeg (os_a (os_sf σ 2 ((os_f σ 2) - (1 : Int32))) 0 (os_f (os_sf σ 2 ((os_f σ 2) - (1 : Int32))) 2).toNatClampNeg)) (pc := 58) g dX0_remove_58 ?_
      refine j_aload_n (pc := 61) g 2 dX0_remove_61 rfl ?_
      refine gB_X0_0_2 (σ := os_sa (os_sf σ 2 ((os_f σ 2) - (1 : Int32))) 0 r10.toNatClampNeg (os_a (os_sf σ 2 ((os_f σ 2) - (1 : Int32))) 0 (os_f (os_sf σ 2 ((os_f σ 2) - (1 : Int32))) 2).toNatClampNeg)) (pc := 62) g dX0_remove_62 ?_
      obtain ⟨h_65, hf⟩ := gx_ck hf
      refine lB_X0_0_1 (σ := os_sa (os_sf σ 2 ((os_f σ 2) - (1 : Int32))) 0 r10.toNatClampNeg (os_a (os_sf σ 2 ((os_f σ 2) - (1 : Int32))) 0 (os_f (os_sf σ 2 ((os_f σ 2) - (1 : Int32))) 2).toNatClampNeg)) (pc := 65) g h_65 dX0_remove_65 ?_
      obtain ⟨h_66, hf⟩ := gx_ck hf
      refine sB_X0_0_1 (σ := os_sa (os_sf σ 2 ((os_f σ 2) - (1 : Int32))) 0 r10.toNatClampNeg (os_a (os_sf σ 2 ((os_f σ 2) - (1 : Int32))) 0 (os_f (os_sf σ 2 ((os_f σ 2) - (1 : Int32))) 2).toNatClampNeg)) (pc := 66) g h_66 dX0_remove_66 ?_
      refine j_iload_n (pc := 67) g 1 dX0_remove_67 rfl ?_
      exact hE _ _ _ _ hf dX0_remove_68 rfl
theorem cN_X2_X2_visitNext_0 {D : va_G} {t : Nat → ClassId} {aa : gx_AA} {l : Launch} {R : Room} {cc : ByteArray} {nL : Nat} {J : gx_J} {ad : Nat → Nat} {rs : va_W} {k n pc : Nat} {L : List (Nat × Value)} {rest : List Value} (g : gx_G D t (gx_E0 aa) l R cc RX2 nL J) {σ : NS} {q : NS} {fr lo : Nat} (hC : gx_C D t (gx_E0 aa) l yX2_visitNext cX2_visitNext 4 none fr lo [.ref (ad 0)] (nC ad t σ ++ rs) (nC ad t q ++ rs) none) (hR : fr + 1 ≤ R.frames ∧ 8 + (4 + 11) + lo ≤ R.locals) (hkn : k ≤ R.cells ∧ n ≤ R.slots) (hcat : (rest.map fun v => v.category).sum ≤ 8) (hd : decode cc pc = .ok (.invokevirtual 96, 3)) (kk : J k n (nC ad t q ++ rs) (pc + 3) L (rest)) : J k n (nC ad t σ ++ rs) pc L (.ref (ad 0) :: rest) := j_callVv (na := 0) (As := []) (q0 := 0) (ci := 4) g hC q_i_X2_visitNext q_s_X2_visitNext rfl rfl rfl q_c_X2_visitNext q_l_X2_96 q_n_X2 (by decide +kernel) rfl hR hkn hcat (.refl _) (.refl _) hd kk rfl
set_option maxRecDepth 100000 in
set_option maxHeartbeats 4000000 in
theorem tX2_letHoursPass_71 {D : va_G} {t : Nat → ClassId} {aa : gx_AA} {l : Launch} {J : gx_J} {ad : Nat → Nat} {rs : va_W} {k21 : NS → Int32 → Int32 → Int32 → Option (Int32 × NS)} {q : (Int32 × NS)} (g : gx_G D t (gx_E0 aa) l ({ frames := 3, cells := 0, slots := 0, locals := 67 }) cX2_letHoursPass RX2 5 J) (hE : ∀ (v : Int32) (σ : NS) (pc : Nat) (L : List (Nat × Value)), some (v, σ) = some q → decode cX2_letHoursPass pc = .ok (.ireturn, 1) → narrow .int (.int v) = .int v → J 0 0 (nC ad t σ ++ rs) pc L [.int v]) (hk21 : ∀ (σ : NS) (v1 : Int32) (v2 : Int32) (v3 : Int32), k21 σ v1 v2 v3 = some q → J 0 0 (nC ad t σ ++ rs) 21 [(0, .ref (ad 0)), (1, .int v1), (2, .int v2), (3, .int v3)] []) : ∀ (σ : NS) (v1 : Int32) (v2 : Int32) (v3 : Int32), fX2_letHoursPass_71 k21 σ v1 v2 v3 = some q → J 0 0 (nC ad t σ ++ rs) 71 [(0, .ref (ad 0)), (1, .int v1), (2, .int v2), (3, .int v3)] [] := by
  intro σ v1 v2 v3 hf
  unfold fX2_letHoursPass_71 at hf
  refine j_aload_n (pc := 71) g 0 dX2_letHoursPass_71 rfl ?_
  refine j_dup (pc := 72) g dX2_letHoursPass_72 rfl ?_
  refine gN_X2_0_3 (σ := σ) (pc := 73) g dX2_letHoursPass_73 ?_
  refine j_iconst (v := 1) (pc := 76) g dX2_letHoursPass_76 (by decide) ?_
  refine j_iadd (pc := 77) g dX2_letHoursPass_77 ?_
  refine pN_X2_0_3 (σ := σ) (pc := 78) g dX2_letHoursPass_78 ?_
  refine j_iinc (v := v3 + 1) (L' := [(3, .int (v3 + 1)), (0, .ref (ad 0)), (1, .int v1), (2, .int v2)]) (pc := 81) g 3 dX2_letHoursPass_81 rfl rfl (Nat.le_of_ble_eq_true rfl) rfl ?_
  refine j_goto (tgt := 21) (pc := 84) g dX2_letHoursPass_84 (by decide) ?_
  refine j_sub (pc := 21) g [1, 2, 3, 0] rfl ?_
  exact hk21 (os_sf σ.1 3 ((os_f σ.1 3) + (1 : Int32)), σ.2) v1 v2 (v3 + 1) hf
set_option maxRecDepth 100000 in
set_option maxHeartbeats 4000000 in
theorem tX2_letHoursPass_37 {D : va_G} {t : Nat → ClassId} {aa : gx_AA} {l : Launch} {J : gx_J} {ad : Nat → Nat} {rs : va_W} {k21 : NS → Int32 → Int32 → Int32 → Option (Int32 × NS)} {q : (Int32 × NS)} (g : gx_G D t (gx_E0 aa) l ({ frames := 3, cells := 0, slots := 0, locals := 67 }) cX2_letHoursPass RX2 5 J) (hE : ∀ (v : Int32) (σ : NS) (pc : Nat) (L : List (Nat × Value)), some (v, σ) = some q → decode cX2_letHoursPass pc = .ok (.ireturn, 1) → narrow .int (.int v) = .int v → J 0 0 (nC ad t σ ++ rs) pc L [.int v]) (hk21 : ∀ (σ : NS) (v1 : Int32) (v2 : Int32) (v3 : Int32), k21 σ v1 v2 v3 = some q → J 0 0 (nC ad t σ ++ rs) 21 [(0, .ref (ad 0)), (1, .int v1), (2, .int v2), (3, .int v3)] []) : ∀ (n : Nat) (σ : NS) (v1 : Int32) (v2 : Int32) (v3 : Int32) (v4 : Int32), fX2_letHoursPass_37 k21 n σ v1 v2 v3 v4 = some q → J 0 0 (nC ad t σ ++ rs) 37 [(0, .ref (ad 0)), (1, .int v1), (2, .int v2), (3, .int v3), (4, .int v4)] [] := by
  intro n
  induction n with
  | zero => intro σ v1 v2 v3 v4 hf; cases hf
  | succ n ih =>
    intro σ v1 v2 v3 v4 hf
    replace hf := (fX2_letHoursPass_37_s k21 n σ v1 v2 v3 v4).symm.trans hf
    refine j_iload (pc := 37) g 4 dX2_letHoursPass_37 rfl ?_
    refine j_bipush (v := 6) (pc := 39) g dX2_letHoursPass_39 (by decide) ?_
    refine j_icmp_ge (tgt := 71) (pc := 41) g dX2_letHoursPass_41 (by decide) (fun c_41 => ?_) (fun c_41 => ?_)
    · have hf := gx_it c_41 hf
      refine j_sub (pc := 71) g [0, 1, 2, 3] rfl ?_
      exact tX2_letHoursPass_71 g hE hk21 σ v1 v2 v3 hf
    · have hf := gx_if c_41 hf
      refine j_aload_n (pc := 44) g 0 dX2_letHoursPass_44 rfl ?_
      refine gN_X2_0_1 (σ := σ) (pc := 45) g dX2_letHoursPass_45 ?_
      refine gN_X2_2_4 (σ := σ) (pc := 48) g dX2_letHoursPass_48 ?_
      refine j_aload_n (pc := 51) g 0 dX2_letHoursPass_51 rfl ?_
      refine gN_X2_0_1 (σ := σ) (pc := 52) g dX2_letHoursPass_52 ?_
      refine gN_X2_2_3 (σ := σ) (pc := 55) g dX2_letHoursPass_55 ?_
      refine j_icmp_ge (tgt := 71) (pc := 58) g dX2_letHoursPass_58 (by decide) (fun c_58 => ?_) (fun c_58 => ?_)
      · have hf := gx_it c_58 hf
        refine j_sub (pc := 71) g [0, 1, 2, 3] rfl ?_
        exact tX2_letHoursPass_71 g hE hk21 σ v1 v2 v3 hf
      · have hf := gx_if c_58 hf
        refine j_aload_n (pc := 61) g 0 dX2_letHoursPass_61 rfl ?_
        obtain ⟨r62, h_62, hf⟩ := gx_bs hf
        refine cN_X2_X2_visitNext_0 (σ := σ) (pc := 62) g (cX2_visitNext_ h_62) ⟨Nat.le_of_ble_eq_true rfl, Nat.le_of_ble_eq_true rfl⟩ ⟨Nat.zero_le _, Nat.zero_le _⟩ (Nat.le_of_ble_eq_true rfl) dX2_letHoursPass_62 ?_
        refine j_iinc (v := v4 + 1) (L' := [(4, .int (v4 + 1)), (0, .ref (ad 0)), (1, .int v1), (2, .int v2), (3, .int v3)]) (pc := 65) g 4 dX2_letHoursPass_65 rfl rfl (Nat.le_of_ble_eq_true rfl) rfl ?_
        refine j_goto (tgt := 37) (pc := 68) g dX2_letHoursPass_68 (by decide) ?_
        refine j_sub (pc := 37) g [1, 2, 3, 4, 0] rfl ?_
        exact ih r62 v1 v2 v3 (v4 + 1) hf
set_option maxRecDepth 100000 in
set_option maxHeartbeats 4000000 in
theorem tX2_letHoursPass_21 {D : va_G} {t : Nat → ClassId} {aa : gx_AA} {l : Launch} {J : gx_J} {ad : Nat → Nat} {rs : va_W} {q : (Int32 × NS)} (g : gx_G D t (gx_E0 aa) l ({ frames := 3, cells := 0, slots := 0, locals := 67 }) cX2_letHoursPass RX2 5 J) (hE : ∀ (v : Int32) (σ : NS) (pc : Nat) (L : List (Nat × Value)), some (v, σ) = some q → decode cX2_letHoursPass pc = .ok (.ireturn, 1) → narrow .int (.int v) = .int v → J 0 0 (nC ad t σ ++ rs) pc L [.int v])  : ∀ (n : Nat) (σ : NS) (v1 : Int32) (v2 : Int32) (v3 : Int32), fX2_letHoursPass_21 n σ v1 v2 v3 = some q → J 0 0 (nC ad t σ ++ rs) 21 [(0, .ref (ad 0)), (1, .int v1), (2, .int v2), (3, .int v3)] [] := by
  intro n
  induction n with
  | zero => intro σ v1 v2 v3 hf; cases hf
  | succ n ih =>
    intro σ v1 v2 v3 hf
    replace hf := (fX2_letHoursPass_21_s n σ v1 v2 v3).symm.trans hf
    refine j_iload_n (pc := 21) g 3 dX2_letHoursPass_21 rfl ?_
    refine j_iload_n (pc := 22) g 1 dX2_letHoursPass_22 rfl ?_
    refine j_icmp_ge (tgt := 87) (pc := 23) g dX2_letHoursPass_23 (by decide) (fun c_23 => ?_) (fun c_23 => ?_)
    · have hf := gx_it c_23 hf
      refine j_aload_n (pc := 87) g 0 dX2_letHoursPass_87 rfl ?_
      refine gN_X2_0_4 (σ := σ) (pc := 88) g dX2_letHoursPass_88 ?_
      refine j_iload_n (pc := 91) g 2 dX2_letHoursPass_91 rfl ?_
      refine j_isub (pc := 92) g dX2_letHoursPass_92 ?_
      exact hE _ _ _ _ hf dX2_letHoursPass_93 rfl
    · have hf := gx_if c_23 hf
      refine j_aload_n (pc := 26) g 0 dX2_letHoursPass_26 rfl ?_
      refine gN_X2_0_1 (σ := σ) (pc := 27) g dX2_letHoursPass_27 ?_
      refine j_iconst (v := 0) (pc := 30) g dX2_letHoursPass_30 (by decide) ?_
      refine pN_X2_2_4 (σ := σ) (pc := 31) g dX2_letHoursPass_31 ?_
      refine j_iconst (v := 0) (pc := 34) g dX2_letHoursPass_34 (by decide) ?_
      refine j_istore (L' := [(4, .int (0 : Int32)), (0, .ref (ad 0)), (1, .int v1), (2, .int v2), (3, .int v3)]) (pc := 35) g dX2_letHoursPass_35 (Nat.le_of_ble_eq_true rfl) rfl ?_
      refine j_sub (pc := 37) g [1, 2, 3, 4, 0] rfl ?_
      exact tX2_letHoursPass_37 g hE ih 2000 (σ.1, σ.2.1, os_sf σ.2.2.1 4 (0 : Int32), σ.2.2.2) v1 v2 v3 (0 : Int32) hf
set_option maxRecDepth 100000 in
set_option maxHeartbeats 4000000 in
theorem cX2_letHoursPass_ {D : va_G} {t : Nat → ClassId} {aa : gx_AA} {l : Launch} {ad : Nat → Nat} {rs : va_W} {σ : NS} {p1 : Int32} {q : (Int32 × NS)} (hf : fX2_letHoursPass σ p1 = some q) : gx_C D t (gx_E0 aa) l yX2_letHoursPass cX2_letHoursPass 5 (some .int) 3 67 [.ref (ad 0), .int p1] (nC ad t σ ++ rs) (nC ad t q.2 ++ rs) (some (.int q.1)) := by
  refine gx_intro_i (by decide) (Nat.le_of_ble_eq_true rfl) (fun J g hE0 => ?_)
  have hE : ∀ (v : Int32) (σ : NS) (pc : Nat) (L : List (Nat × Value)), some (v, σ) = some q → decode cX2_letHoursPass pc = .ok (.ireturn, 1) → narrow .int (.int v) = .int v → J 0 0 (nC ad t σ ++ rs) pc L [.int v] := fun v σ pc L h h1 h2 => by cases h; exact hE0 pc L h1 h2
  unfold fX2_letHoursPass at hf
  show J 0 0 (nC ad t σ ++ rs) 0 [(0, .ref (ad 0)), (1, .int p1)] []
  refine j_iload_n (pc := 0) g 1 dX2_letHoursPass_0 rfl ?_
  refine j_iconst (v := 1) (pc := 1) g dX2_letHoursPass_1 (by decide) ?_
  refine j_icmp_lt (tgt := 11) (pc := 2) g dX2_letHoursPass_2 (by decide) (fun c_2 => ?_) (fun c_2 => ?_)
  · have hf := gx_it c_2 hf
    refine j_bipush (v := -2) (pc := 11) g dX2_letHoursPass_11 (by decide) ?_
    exact hE _ _ _ _ hf dX2_letHoursPass_13 rfl
  · have hf := gx_if c_2 hf
    refine j_iload_n (pc := 5) g 1 dX2_letHoursPass_5 rfl ?_
    refine j_bipush (v := 24) (pc := 6) g dX2_letHoursPass_6 (by decide) ?_
    refine j_icmp_le (tgt := 14) (pc := 8) g dX2_letHoursPass_8 (by decide) (fun c_8 => ?_) (fun c_8 => ?_)
    · have hf := gx_it c_8 hf
      refine j_aload_n (pc := 14) g 0 dX2_letHoursPass_14 rfl ?_
      refine gN_X2_0_4 (σ := σ) (pc := 15) g dX2_letHoursPass_15 ?_
      refine j_istore_n (L' := [(2, .int (os_f σ.1 4)), (0, .ref (ad 0)), (1, .int p1)]) (pc := 18) g dX2_letHoursPass_18 rfl (Nat.le_of_ble_eq_true rfl) rfl ?_
      refine j_iconst (v := 0) (pc := 19) g dX2_letHoursPass_19 (by decide) ?_
      refine j_istore_n (L' := [(3, .int (0 : Int32)), (2, .int (os_f σ.1 4)), (0, .ref (ad 0)), (1, .int p1)]) (pc := 20) g dX2_letHoursPass_20 rfl (Nat.le_of_ble_eq_true rfl) rfl ?_
      refine j_sub (pc := 21) g [2, 3, 1, 0] rfl ?_
      exact tX2_letHoursPass_21 g hE 2000 σ p1 (os_f σ.1 4) (0 : Int32) hf
    · have hf := gx_if c_8 hf
      refine j_bipush (v := -2) (pc := 11) g dX2_letHoursPass_11 (by decide) ?_
      exact hE _ _ _ _ hf dX2_letHoursPass_13 rfl
