
set_option maxRecDepth 100000 in
set_option maxHeartbeats 4000000 in
theorem eX8_flagsWith_ {D : va_G} {t : Nat → ClassId} {aa : gx_AA} {l : Launch} {ad : Nat → Nat} {rs : va_W} {σ : CS} {p1 : Int32} {q : (Nat × CS)} (hf : xX8_flagsWith σ p1 = some q) : gx_CX D t (gx_E0 aa) l yX8_flagsWith cX8_flagsWith 2 (some .int) 6 90 [.ref (ad 0), .int p1] (kW aa ad t σ rs) (kW aa ad t q.2 rs) (gx_en q.1) := by
  refine gx_intro_x (by decide) (Nat.le_of_ble_eq_true rfl) (fun J gx => ?_)
  have g := gx.g
  unfold xX8_flagsWith at hf
  show J 0 0 (kW aa ad t σ rs) 0 [(0, .ref (ad 0)), (1, .int p1)] []
  refine j_iload_n (pc := 0) g 1 dX8_flagsWith_0 rfl ?_
  refine j_if_lt (tgt := 10) (pc := 1) g dX8_flagsWith_1 (by decide) (fun c_1 => ?_) (fun c_1 => ?_)
  · have hf := gx_it c_1 hf
    cases hf
    exact j_throw (E0 := "java/lang/IllegalArgumentException") (is := 219) (text := "the meaning is out of range") (pc := 10) gx (by decide +kernel) (by decide +kernel) q_k_X8_175 q_n_ex2 at_179 ag_179 ⟨Nat.le_of_ble_eq_true rfl, Nat.le_of_ble_eq_true rfl⟩ (Nat.le_of_ble_eq_true rfl) dX8_flagsWith_10 dX8_flagsWith_13 dX8_flagsWith_14 dX8_flagsWith_16 dX8_flagsWith_19
  · have hf := gx_if c_1 hf
    refine j_iload_n (pc := 4) g 1 dX8_flagsWith_4 rfl ?_
    refine j_bipush (v := 99) (pc := 5) g dX8_flagsWith_5 (by decide) ?_
    refine j_icmp_le (tgt := 20) (pc := 7) g dX8_flagsWith_7 (by decide) (fun c_7 => ?_) (fun c_7 => ?_)
    · have hf := gx_it c_7 hf
      refine j_aload_n (pc := 20) g 0 dX8_flagsWith_20 rfl ?_
      refine gK_X8_0_0 (σ := σ) (pc := 21) g dX8_flagsWith_21 ?_
      refine gK_X8_1_2 (σ := σ) (pc := 24) g dX8_flagsWith_24 ?_
      refine j_iload_n (pc := 27) g 1 dX8_flagsWith_27 rfl ?_
      obtain ⟨r28, h_28, hf⟩ := gx_bs hf
      refine cK_X8_X0_countMeaning_4 (σ := σ) (pc := 28) g (cX0_countMeaning_ (ad := (fun p => ad (p + 12))) h_28) ⟨Nat.le_of_ble_eq_true rfl, Nat.le_of_ble_eq_true rfl⟩ ⟨Nat.zero_le _, Nat.zero_le _⟩ (Nat.le_of_ble_eq_true rfl) dX8_flagsWith_28 ?_
      cases hf
    · have hf := gx_if c_7 hf
      cases hf
      exact j_throw (E0 := "java/lang/IllegalArgumentException") (is := 219) (text := "the meaning is out of range") (pc := 10) gx (by decide +kernel) (by decide +kernel) q_k_X8_175 q_n_ex2 at_179 ag_179 ⟨Nat.le_of_ble_eq_true rfl, Nat.le_of_ble_eq_true rfl⟩ (Nat.le_of_ble_eq_true rfl) dX8_flagsWith_10 dX8_flagsWith_13 dX8_flagsWith_14 dX8_flagsWith_16 dX8_flagsWith_19

set_option maxRecDepth 100000 in
set_option maxHeartbeats 4000000 in
theorem eX8_officerByRank_ {D : va_G} {t : Nat → ClassId} {aa : gx_AA} {l : Launch} {ad : Nat → Nat} {rs : va_W} {σ : CS} {p1 : Int32} {q : (Nat × CS)} (hf : xX8_officerByRank σ p1 = some q) : gx_CX D t (gx_E0 aa) l yX8_officerByRank cX8_officerByRank 3 (some .int) 6 90 [.ref (ad 0), .int p1] (kW aa ad t σ rs) (kW aa ad t q.2 rs) (gx_en q.1) := by
  refine gx_intro_x (by decide) (Nat.le_of_ble_eq_true rfl) (fun J gx => ?_)
  have g := gx.g
  unfold xX8_officerByRank at hf
  show J 0 0 (kW aa ad t σ rs) 0 [(0, .ref (ad 0)), (1, .int p1)] []
  refine j_aload_n (pc := 0) g 0 dX8_officerByRank_0 rfl ?_
  refine gK_X8_0_0 (σ := σ) (pc := 1) g dX8_officerByRank_1 ?_
  refine gK_X8_1_0 (σ := σ) (pc := 4) g dX8_officerByRank_4 ?_
  refine j_iload_n (pc := 7) g 1 dX8_officerByRank_7 rfl ?_
  obtain ⟨r8, h_8, hf⟩ := gx_bs hf
  refine cK_X8_X3_atPlace_2 (σ := σ) (pc := 8) g (cX3_atPlace_ (ad := (fun p => ad (p + 2))) h_8) ⟨Nat.le_of_ble_eq_true rfl, Nat.le_of_ble_eq_true rfl⟩ ⟨Nat.zero_le _, Nat.zero_le _⟩ (Nat.le_of_ble_eq_true rfl) dX8_officerByRank_8 ?_
  refine j_istore_n (L' := [(2, .int r8), (0, .ref (ad 0)), (1, .int p1)]) (pc := 11) g dX8_officerByRank_11 rfl (Nat.le_of_ble_eq_true rfl) rfl ?_
  refine j_iload_n (pc := 12) g 0 dX8_officerByRank_12 rfl ?_
  refine j_iconst (v := -1) (pc := 13) g dX8_officerByRank_13 (by decide) ?_
  refine j_icmp_ne (tgt := 27) (pc := 14) g dX8_officerByRank_14 (by decide) (fun c_14 => ?_) (fun c_14 => ?_)
  · have hf := gx_if c_14 hf
    refine j_iload_n (pc := 27) g 0 dX8_officerByRank_27 rfl ?_
    cases hf
  · have hf := gx_it c_14 hf
    cases hf
    exact j_throwN (is := 227) (text := "no such place") (pc := 17) gx rfl (by decide +kernel) q_k_X8_128 q_n_ex5 at_132 ag_132 ⟨Nat.le_of_ble_eq_true rfl, Nat.le_of_ble_eq_true rfl⟩ (Nat.le_of_ble_eq_true rfl) dX8_officerByRank_17 dX8_officerByRank_20 (Or.inl ⟨dX8_officerByRank_21, rfl⟩) dX8_officerByRank_23 dX8_officerByRank_26

set_option maxRecDepth 100000 in
set_option maxHeartbeats 4000000 in
theorem eX8_feed_ {D : va_G} {t : Nat → ClassId} {aa : gx_AA} {l : Launch} {ad : Nat → Nat} {rs : va_W} {σ : CS} {p1 : Int32} {q : (Nat × CS)} (hf : xX8_feed σ p1 = some q) : gx_CX D t (gx_E0 aa) l yX8_feed cX8_feed 2 (some .int) 6 90 [.ref (ad 0), .int p1] (kW aa ad t σ rs) (kW aa ad t q.2 rs) (gx_en q.1) := by
  refine gx_intro_x (by decide) (Nat.le_of_ble_eq_true rfl) (fun J gx => ?_)
  have g := gx.g
  unfold xX8_feed at hf
  show J 0 0 (kW aa ad t σ rs) 0 [(0, .ref (ad 0)), (1, .int p1)] []
  refine j_aload_n (pc := 0) g 0 dX8_feed_0 rfl ?_
  refine gK_X8_0_4 (σ := σ) (pc := 1) g dX8_feed_1 ?_
  refine gK_X8_13_0 (σ := σ) (pc := 4) g dX8_feed_4 ?_
  refine j_iload_n (pc := 7) g 1 dX8_feed_7 rfl ?_
  obtain ⟨r8, h_8, hf⟩ := gx_bs hf
  refine cK_X8_X6_add_14 (σ := σ) (pc := 8) g (cX6_add_ (ad := (fun p => ad (p + 44))) h_8) ⟨Nat.le_of_ble_eq_true rfl, Nat.le_of_ble_eq_true rfl⟩ ⟨Nat.zero_le _, Nat.zero_le _⟩ (Nat.le_of_ble_eq_true rfl) dX8_feed_8 ?_
  refine j_if_ne (tgt := 24) (pc := 11) g dX8_feed_11 (by decide) (fun c_11 => ?_) (fun c_11 => ?_)
  · have hf := gx_if c_11 hf
    refine j_aload_n (pc := 24) g 0 dX8_feed_24 rfl ?_
    refine gK_X8_0_4 (σ := (σ.1, (σ.2.1, (σ.2.2.1, (σ.2.2.2.1, (r8.2, σ.2.2.2.2.2)))))) (pc := 25) g dX8_feed_25 ?_
    refine gK_X8_13_0 (σ := (σ.1, (σ.2.1, (σ.2.2.1, (σ.2.2.2.1, (r8.2, σ.2.2.2.2.2)))))) (pc := 28) g dX8_feed_28 ?_
    refine gK_X8_14_1 (σ := (σ.1, (σ.2.1, (σ.2.2.1, (σ.2.2.2.1, (r8.2, σ.2.2.2.2.2)))))) (pc := 31) g dX8_feed_31 ?_
    cases hf
  · have hf := gx_it c_11 hf
    cases hf
    exact j_throw (E0 := "java/lang/IllegalStateException") (is := 249) (text := "the input buffer is full") (pc := 14) gx (by decide +kernel) (by decide +kernel) q_k_X8_247 q_n_ex3 at_251 ag_251 ⟨Nat.le_of_ble_eq_true rfl, Nat.le_of_ble_eq_true rfl⟩ (Nat.le_of_ble_eq_true rfl) dX8_feed_14 dX8_feed_17 dX8_feed_18 dX8_feed_20 dX8_feed_23

set_option maxRecDepth 100000 in
set_option maxHeartbeats 4000000 in
theorem eX8_outputChar_ {D : va_G} {t : Nat → ClassId} {aa : gx_AA} {l : Launch} {ad : Nat → Nat} {rs : va_W} {σ : CS} {p1 : Int32} {q : (Nat × CS)} (hf : xX8_outputChar σ p1 = some q) : gx_CX D t (gx_E0 aa) l yX8_outputChar cX8_outputChar 2 (some .char) 6 90 [.ref (ad 0), .int p1] (kW aa ad t σ rs) (kW aa ad t q.2 rs) (gx_en q.1) := by
  refine gx_intro_x (by decide) (Nat.le_of_ble_eq_true rfl) (fun J gx => ?_)
  have g := gx.g
  unfold xX8_outputChar at hf
  show J 0 0 (kW aa ad t σ rs) 0 [(0, .ref (ad 0)), (1, .int p1)] []
  refine j_iload_n (pc := 0) g 1 dX8_outputChar_0 rfl ?_
  refine j_if_lt (tgt := 15) (pc := 1) g dX8_outputChar_1 (by decide) (fun c_1 => ?_) (fun c_1 => ?_)
  · have hf := gx_it c_1 hf
    cases hf
    exact j_throwW (E0 := "java/lang/IndexOutOfBoundsException") (is := 284) (text := "no such character of the output") (pc := 15) gx (by decide +kernel) (by decide +kernel) q_k_X8_282 q_n_ex1 at_286 ag_286 ⟨Nat.le_of_ble_eq_true rfl, Nat.le_of_ble_eq_true rfl⟩ (Nat.le_of_ble_eq_true rfl) dX8_outputChar_15 dX8_outputChar_18 dX8_outputChar_19 dX8_outputChar_22 dX8_outputChar_25
  · have hf := gx_if c_1 hf
    refine j_iload_n (pc := 4) g 1 dX8_outputChar_4 rfl ?_
    refine j_aload_n (pc := 5) g 0 dX8_outputChar_5 rfl ?_
    refine gK_X8_0_5 (σ := σ) (pc := 6) g dX8_outputChar_6 ?_
    refine gK_X8_15_1 (σ := σ) (pc := 9) g dX8_outputChar_9 ?_
    refine j_icmp_lt (tgt := 26) (pc := 12) g dX8_outputChar_12 (by decide) (fun c_12 => ?_) (fun c_12 => ?_)
    · have hf := gx_it c_12 hf
      refine j_aload_n (pc := 26) g 0 dX8_outputChar_26 rfl ?_
      refine gK_X8_0_5 (σ := σ) (pc := 27) g dX8_outputChar_27 ?_
      refine gK_X8_15_0 (σ := σ) (pc := 30) g dX8_outputChar_30 ?_
      refine j_iload_n (pc := 33) g 1 dX8_outputChar_33 rfl ?_
      obtain ⟨h_34, hf⟩ := gx_ck hf
      refine lK_X8_15_0 (σ := σ) (pc := 34) g h_34 dX8_outputChar_34 ?_
      cases hf
    · have hf := gx_if c_12 hf
      cases hf
      exact j_throwW (E0 := "java/lang/IndexOutOfBoundsException") (is := 284) (text := "no such character of the output") (pc := 15) gx (by decide +kernel) (by decide +kernel) q_k_X8_282 q_n_ex1 at_286 ag_286 ⟨Nat.le_of_ble_eq_true rfl, Nat.le_of_ble_eq_true rfl⟩ (Nat.le_of_ble_eq_true rfl) dX8_outputChar_15 dX8_outputChar_18 dX8_outputChar_19 dX8_outputChar_22 dX8_outputChar_25

set_option maxRecDepth 100000 in
set_option maxHeartbeats 4000000 in
theorem eX8_undo_ {D : va_G} {t : Nat → ClassId} {aa : gx_AA} {l : Launch} {ad : Nat → Nat} {rs : va_W} {σ : CS} {q : (Nat × CS)} (hf : xX8_undo σ = some q) : gx_CX D t (gx_E0 aa) l yX8_undo cX8_undo 2 (some .int) 6 90 [.ref (ad 0)] (kW aa ad t σ rs) (kW aa ad t q.2 rs) (gx_en q.1) := by
  refine gx_intro_x (by decide) (Nat.le_of_ble_eq_true rfl) (fun J gx => ?_)
  have g := gx.g
  unfold xX8_undo at hf
  show J 0 0 (kW aa ad t σ rs) 0 [(0, .ref (ad 0))] []
  refine j_aload_n (pc := 0) g 0 dX8_undo_0 rfl ?_
  refine gK_X8_0_3 (σ := σ) (pc := 1) g dX8_undo_1 ?_
  obtain ⟨r4, h_4, hf⟩ := gx_bs hf
  refine cK_take (σ := σ) (pc := 4) g (cX1_takeLatest_ (ad := (fun p => ad (p + 48))) h_4) ⟨Nat.le_of_ble_eq_true rfl, Nat.le_of_ble_eq_true rfl⟩ ⟨Nat.zero_le _, Nat.zero_le _⟩ (Nat.le_of_ble_eq_true rfl) dX8_undo_4 ?_
  refine j_astore_e_n (L' := [(1, gx_hv (fun p => ad (p + 48)) r4.1), (0, .ref (ad 0))]) (pc := 7) g (gx_hv_or _ _) dX8_undo_7 rfl (Nat.le_of_ble_eq_true rfl) rfl ?_
  refine j_load_e_n (pc := 8) g (gx_hv_or _ _) 0 dX8_undo_8 rfl ?_
  by_cases c_9 : r4.1 = -1
  · have hf := gx_it c_9 hf
    have hv : gx_hv (fun p => ad (p + 48)) r4.1 = .null := if_pos c_9
    rw [hv]
    refine j_ifnonnullN (pc := 9) g dX8_undo_9 ?_
    cases hf
    exact j_throwW (E0 := "java/lang/IllegalStateException") (is := 296) (text := "no call can be undone") (pc := 12) gx (by decide +kernel) (by decide +kernel) q_k_X8_247 q_n_ex3 at_251 ag_251 ⟨Nat.le_of_ble_eq_true rfl, Nat.le_of_ble_eq_true rfl⟩ (Nat.le_of_ble_eq_true rfl) dX8_undo_12 dX8_undo_15 dX8_undo_16 dX8_undo_19 dX8_undo_22
  · have hf := gx_if c_9 hf
    obtain ⟨h_9, hf⟩ := gx_ck hf
    have hv : gx_hv (fun p => ad (p + 48)) r4.1 = .ref (ad (2 + 14 * r4.1.toNatClampNeg + 48)) := gx_hv_r h_9
    rw [hv]
    refine j_ifnonnull (tgt := 23) (pc := 9) g dX8_undo_9 (by decide) ?_
    refine j_aload_n (pc := 23) g 1 dX8_undo_23 rfl ?_
    refine gK_X8_0_0 (σ := (σ.1, (σ.2.1, (σ.2.2.1, (σ.2.2.2.1, (σ.2.2.2.2.1, (σ.2.2.2.2.2.1, (r4.2, σ.2.2.2.2.2.2.2)))))))) (pc := 24) g dX8_undo_24 ?_
    refine j_aload_n (pc := 27) g 0 dX8_undo_27 rfl ?_
    obtain ⟨r28, h_28, hf⟩ := gx_bs hf
    refine cK_undo (σ := (σ.1, (σ.2.1, (σ.2.2.1, (σ.2.2.2.1, (σ.2.2.2.2.1, (σ.2.2.2.2.2.1, (r4.2, σ.2.2.2.2.2.2.2)))))))) (pc := 28) g h_9 (cX2_copyFrom_ (ad := (fun p => ad (p + 1))) (bd := fun p => ad (2 + 14 * r4.1.toNatClampNeg + p + 48)) h_28) ⟨Nat.le_of_ble_eq_true rfl, Nat.le_of_ble_eq_true rfl⟩ ⟨Nat.zero_le _, Nat.zero_le _⟩ (Nat.le_of_ble_eq_true rfl) dX8_undo_28 ?_
    refine j_aload_n (pc := 31) g 1 dX8_undo_31 rfl ?_
    refine gK_X8_0_3 (σ := (r28.1, (σ.2.1, (σ.2.2.1, (σ.2.2.2.1, (σ.2.2.2.2.1, (σ.2.2.2.2.2.1, ((hs_up r4.2 r4.1.toNatClampNeg r28.2), σ.2.2.2.2.2.2.2)))))))) (pc := 32) g dX8_undo_32 ?_
    refine gK_hcount (σ := (r28.1, (σ.2.1, (σ.2.2.1, (σ.2.2.2.1, (σ.2.2.2.2.1, (σ.2.2.2.2.2.1, ((hs_up r4.2 r4.1.toNatClampNeg r28.2), σ.2.2.2.2.2.2.2)))))))) (pc := 35) g dX8_undo_35 ?_
    cases hf

set_option maxRecDepth 100000 in
set_option maxHeartbeats 4000000 in
theorem eX8_restore_ {D : va_G} {t : Nat → ClassId} {aa : gx_AA} {l : Launch} {ad : Nat → Nat} {rs : va_W} {σ : CS} {q : (Nat × CS)} (hf : xX8_restore σ = some q) : gx_CX D t (gx_E0 aa) l yX8_restore cX8_restore 1 (some .int) 6 90 [.ref (ad 0)] (kW aa ad t σ rs) (kW aa ad t q.2 rs) (gx_en q.1) := by
  refine gx_intro_x (by decide) (Nat.le_of_ble_eq_true rfl) (fun J gx => ?_)
  have g := gx.g
  unfold xX8_restore at hf
  show J 0 0 (kW aa ad t σ rs) 0 [(0, .ref (ad 0))] []
  refine j_aload_n (pc := 0) g 0 dX8_restore_0 rfl ?_
  refine gK_X8_0_6 (σ := σ) (pc := 1) g dX8_restore_1 ?_
  refine j_if_ne (tgt := 18) (pc := 4) g dX8_restore_4 (by decide) (fun c_4 => ?_) (fun c_4 => ?_)
  · have hf := gx_if c_4 hf
    refine j_aload_n (pc := 18) g 0 dX8_restore_18 rfl ?_
    refine gK_X8_0_0 (σ := σ) (pc := 19) g dX8_restore_19 ?_
    refine j_aload_n (pc := 22) g 0 dX8_restore_22 rfl ?_
    refine gK_X8_0_2 (σ := σ) (pc := 23) g dX8_restore_23 ?_
    obtain ⟨r26, h_26, hf⟩ := gx_bs hf
    refine cK_X8_X2_copyFrom_1_9 (σ := σ) (pc := 26) g (cX2_copyFrom_ (ad := (fun p => ad (p + 1))) (bd := (fun p => ad (p + 29))) h_26) ⟨Nat.le_of_ble_eq_true rfl, Nat.le_of_ble_eq_true rfl⟩ ⟨Nat.zero_le _, Nat.zero_le _⟩ (Nat.le_of_ble_eq_true rfl) dX8_restore_26 ?_
    refine j_aload_n (pc := 29) g 0 dX8_restore_29 rfl ?_
    refine gK_X8_0_3 (σ := (r26.1, (σ.2.1, (r26.2, σ.2.2.2)))) (pc := 30) g dX8_restore_30 ?_
    obtain ⟨r33, h_33, hf⟩ := gx_bs hf
    refine cK_X8_X1_clear_16 (σ := (r26.1, (σ.2.1, (r26.2, σ.2.2.2)))) (pc := 33) g (cX1_clear_ (ad := (fun p => ad (p + 48))) h_33) ⟨Nat.le_of_ble_eq_true rfl, Nat.le_of_ble_eq_true rfl⟩ ⟨Nat.zero_le _, Nat.zero_le _⟩ (Nat.le_of_ble_eq_true rfl) dX8_restore_33 ?_
    refine j_aload_n (pc := 36) g 0 dX8_restore_36 rfl ?_
    refine gK_X8_0_0 (σ := (r26.1, (σ.2.1, (r26.2, (σ.2.2.2.1, (σ.2.2.2.2.1, (σ.2.2.2.2.2.1, (r33, σ.2.2.2.2.2.2.2)))))))) (pc := 37) g dX8_restore_37 ?_
    refine gK_X8_1_0 (σ := (r26.1, (σ.2.1, (r26.2, (σ.2.2.2.1, (σ.2.2.2.2.1, (σ.2.2.2.2.2.1, (r33, σ.2.2.2.2.2.2.2)))))))) (pc := 40) g dX8_restore_40 ?_
    obtain ⟨r43, h_43, hf⟩ := gx_bs hf
    refine cK_X8_X3_countServing_2 (σ := (r26.1, (σ.2.1, (r26.2, (σ.2.2.2.1, (σ.2.2.2.2.1, (σ.2.2.2.2.2.1, (r33, σ.2.2.2.2.2.2.2)))))))) (pc := 43) g (cX3_countServing_ (ad := (fun p => ad (p + 2))) h_43) ⟨Nat.le_of_ble_eq_true rfl, Nat.le_of_ble_eq_true rfl⟩ ⟨Nat.zero_le _, Nat.zero_le _⟩ (Nat.le_of_ble_eq_true rfl) dX8_restore_43 ?_
    cases hf
  · have hf := gx_it c_4 hf
    cases hf
    exact j_throwW (E0 := "java/lang/IllegalStateException") (is := 298) (text := "no state was saved") (pc := 7) gx (by decide +kernel) (by decide +kernel) q_k_X8_247 q_n_ex3 at_251 ag_251 ⟨Nat.le_of_ble_eq_true rfl, Nat.le_of_ble_eq_true rfl⟩ (Nat.le_of_ble_eq_true rfl) dX8_restore_7 dX8_restore_10 dX8_restore_11 dX8_restore_14 dX8_restore_17

set_option maxRecDepth 100000 in
set_option maxHeartbeats 4000000 in
theorem eX8_requireOfficer_ {D : va_G} {t : Nat → ClassId} {aa : gx_AA} {l : Launch} {ad : Nat → Nat} {rs : va_W} {σ : CS} {p1 : Int32} {q : (Nat × CS)} (hf : xX8_requireOfficer σ p1 = some q) : gx_CX D t (gx_E0 aa) l yX8_requireOfficer cX8_requireOfficer 2 none 6 90 [.ref (ad 0), .int p1] (kW aa ad t σ rs) (kW aa ad t q.2 rs) (gx_en q.1) := by
  refine gx_intro_x (by decide) (Nat.le_of_ble_eq_true rfl) (fun J gx => ?_)
  have g := gx.g
  unfold xX8_requireOfficer at hf
  show J 0 0 (kW aa ad t σ rs) 0 [(0, .ref (ad 0)), (1, .int p1)] []
  refine j_aload_n (pc := 0) g 0 dX8_requireOfficer_0 rfl ?_
  refine gK_X8_0_0 (σ := σ) (pc := 1) g dX8_requireOfficer_1 ?_
  refine gK_X8_1_0 (σ := σ) (pc := 4) g dX8_requireOfficer_4 ?_
  refine j_iload_n (pc := 7) g 1 dX8_requireOfficer_7 rfl ?_
  obtain ⟨r8, h_8, hf⟩ := gx_bs hf
  refine cK_X8_X3_serves_2 (σ := σ) (pc := 8) g (cX3_serves_ (ad := (fun p => ad (p + 2))) h_8) ⟨Nat.le_of_ble_eq_true rfl, Nat.le_of_ble_eq_true rfl⟩ ⟨Nat.zero_le _, Nat.zero_le _⟩ (Nat.le_of_ble_eq_true rfl) dX8_requireOfficer_8 ?_
  refine j_if_ne (tgt := 25) (pc := 11) g dX8_requireOfficer_11 (by decide) (fun c_11 => ?_) (fun c_11 => ?_)
  · have hf := gx_if c_11 hf
    cases hf
  · have hf := gx_it c_11 hf
    cases hf
    exact j_throwW (E0 := "java/lang/IndexOutOfBoundsException") (is := 301) (text := "no such officer in the navy") (pc := 14) gx (by decide +kernel) (by decide +kernel) q_k_X8_282 q_n_ex1 at_286 ag_286 ⟨Nat.le_of_ble_eq_true rfl, Nat.le_of_ble_eq_true rfl⟩ (Nat.le_of_ble_eq_true rfl) dX8_requireOfficer_14 dX8_requireOfficer_17 dX8_requireOfficer_18 dX8_requireOfficer_21 dX8_requireOfficer_24

set_option maxRecDepth 100000 in
set_option maxHeartbeats 4000000 in
theorem eX8_requireOrder_ {D : va_G} {t : Nat → ClassId} {aa : gx_AA} {l : Launch} {ad : Nat → Nat} {rs : va_W} {σ : CS} {p1 : Int32} {q : (Nat × CS)} (hf : xX8_requireOrder σ p1 = some q) : gx_CX D t (gx_E0 aa) l yX8_requireOrder cX8_requireOrder 2 none 6 90 [.ref (ad 0), .int p1] (kW aa ad t σ rs) (kW aa ad t q.2 rs) (gx_en q.1) := by
  refine gx_intro_x (by decide) (Nat.le_of_ble_eq_true rfl) (fun J gx => ?_)
  have g := gx.g
  unfold xX8_requireOrder at hf
  show J 0 0 (kW aa ad t σ rs) 0 [(0, .ref (ad 0)), (1, .int p1)] []
  refine j_iload_n (pc := 0) g 1 dX8_requireOrder_0 rfl ?_
  refine j_if_lt (tgt := 18) (pc := 1) g dX8_requireOrder_1 (by decide) (fun c_1 => ?_) (fun c_1 => ?_)
  · have hf := gx_it c_1 hf
    cases hf
    exact j_throwW (E0 := "java/lang/IndexOutOfBoundsException") (is := 303) (text := "no such order") (pc := 18) gx (by decide +kernel) (by decide +kernel) q_k_X8_282 q_n_ex1 at_286 ag_286 ⟨Nat.le_of_ble_eq_true rfl, Nat.le_of_ble_eq_true rfl⟩ (Nat.le_of_ble_eq_true rfl) dX8_requireOrder_18 dX8_requireOrder_21 dX8_requireOrder_22 dX8_requireOrder_25 dX8_requireOrder_28
  · have hf := gx_if c_1 hf
    refine j_iload_n (pc := 4) g 1 dX8_requireOrder_4 rfl ?_
    refine j_aload_n (pc := 5) g 0 dX8_requireOrder_5 rfl ?_
    refine gK_X8_0_0 (σ := σ) (pc := 6) g dX8_requireOrder_6 ?_
    refine gK_X8_1_1 (σ := σ) (pc := 9) g dX8_requireOrder_9 ?_
    refine gK_X8_3_3 (σ := σ) (pc := 12) g dX8_requireOrder_12 ?_
    refine j_icmp_lt (tgt := 29) (pc := 15) g dX8_requireOrder_15 (by decide) (fun c_15 => ?_) (fun c_15 => ?_)
    · have hf := gx_it c_15 hf
      cases hf
    · have hf := gx_if c_15 hf
      cases hf
      exact j_throwW (E0 := "java/lang/IndexOutOfBoundsException") (is := 303) (text := "no such order") (pc := 18) gx (by decide +kernel) (by decide +kernel) q_k_X8_282 q_n_ex1 at_286 ag_286 ⟨Nat.le_of_ble_eq_true rfl, Nat.le_of_ble_eq_true rfl⟩ (Nat.le_of_ble_eq_true rfl) dX8_requireOrder_18 dX8_requireOrder_21 dX8_requireOrder_22 dX8_requireOrder_25 dX8_requireOrder_28

set_option maxRecDepth 100000 in
set_option maxHeartbeats 4000000 in
theorem eX8_requireWay_ {D : va_G} {t : Nat → ClassId} {aa : gx_AA} {l : Launch} {ad : Nat → Nat} {rs : va_W} {σ : CS} {p1 : Int32} {p2 : Int32} {q : (Nat × CS)} (hf : xX8_requireWay σ p1 p2 = some q) : gx_CX D t (gx_E0 aa) l yX8_requireWay cX8_requireWay 3 none 6 90 [.ref (ad 0), .int p1, .int p2] (kW aa ad t σ rs) (kW aa ad t q.2 rs) (gx_en q.1) := by
  refine gx_intro_x (by decide) (Nat.le_of_ble_eq_true rfl) (fun J gx => ?_)
  have g := gx.g
  unfold xX8_requireWay at hf
  show J 0 0 (kW aa ad t σ rs) 0 [(0, .ref (ad 0)), (1, .int p1), (2, .int p2)] []
  refine j_aload_n (pc := 0) g 0 dX8_requireWay_0 rfl ?_
  refine gK_X8_0_0 (σ := σ) (pc := 1) g dX8_requireWay_1 ?_
  refine gK_X8_1_0 (σ := σ) (pc := 4) g dX8_requireWay_4 ?_
  refine j_iload_n (pc := 7) g 1 dX8_requireWay_7 rfl ?_
  refine j_iload_n (pc := 8) g 2 dX8_requireWay_8 rfl ?_
  obtain ⟨r9, h_9, hf⟩ := gx_bs hf
  refine cK_X8_X3_isOver_2 (σ := σ) (pc := 9) g (cX3_isOver_ (ad := (fun p => ad (p + 2))) h_9) ⟨Nat.le_of_ble_eq_true rfl, Nat.le_of_ble_eq_true rfl⟩ ⟨Nat.zero_le _, Nat.zero_le _⟩ (Nat.le_of_ble_eq_true rfl) dX8_requireWay_9 ?_
  refine j_if_ne (tgt := 26) (pc := 12) g dX8_requireWay_12 (by decide) (fun c_12 => ?_) (fun c_12 => ?_)
  · have hf := gx_if c_12 hf
    cases hf
  · have hf := gx_it c_12 hf
    cases hf
    exact j_throwW (E0 := "java/lang/IllegalStateException") (is := 305) (text := "the second officer is not below the first one") (pc := 15) gx (by decide +kernel) (by decide +kernel) q_k_X8_247 q_n_ex3 at_251 ag_251 ⟨Nat.le_of_ble_eq_true rfl, Nat.le_of_ble_eq_true rfl⟩ (Nat.le_of_ble_eq_true rfl) dX8_requireWay_15 dX8_requireWay_18 dX8_requireWay_19 dX8_requireWay_22 dX8_requireWay_25

set_option maxRecDepth 100000 in
set_option maxHeartbeats 4000000 in
theorem eX8_throwFor_ {D : va_G} {t : Nat → ClassId} {aa : gx_AA} {l : Launch} {ad : Nat → Nat} {rs : va_W} {p0 : Int32} {q : Nat} (hf : xX8_throwFor p0 = some q) : gx_CX D t (gx_E0 aa) l yX8_throwFor cX8_throwFor 1 none 6 90 [.int p0] (rs) (rs) (gx_en q) := by
  refine gx_intro_x (by decide) (Nat.le_of_ble_eq_true rfl) (fun J gx => ?_)
  have g := gx.g
  unfold xX8_throwFor at hf
  show J 0 0 (rs) 0 [(0, .int p0)] []
  refine j_iload_n (pc := 0) g 0 dX8_throwFor_0 rfl ?_
  by_cases c_1_0 : p0 = -4
  · have hf := gx_it c_1_0 hf
    refine j_tableIn (tgt := 65) (pc := 1) g dX8_throwFor_1 (by rw [c_1_0]; decide) (by rw [c_1_0]; decide) (by rw [c_1_0]; rfl) (by decide) ?_
    cases hf
    exact j_throwW (E0 := "java/lang/UnsupportedOperationException") (is := 314) (text := "this can't be done now") (pc := 65) gx (by decide +kernel) (by decide +kernel) q_k_X8_269 q_n_ex4 at_273 ag_273 ⟨Nat.le_of_ble_eq_true rfl, Nat.le_of_ble_eq_true rfl⟩ (Nat.le_of_ble_eq_true rfl) dX8_throwFor_65 dX8_throwFor_68 dX8_throwFor_69 dX8_throwFor_72 dX8_throwFor_75
  · have hf := gx_if c_1_0 hf
    by_cases c_1_1 : p0 = -3
    · have hf := gx_it c_1_1 hf
      refine j_tableIn (tgt := 54) (pc := 1) g dX8_throwFor_1 (by rw [c_1_1]; decide) (by rw [c_1_1]; decide) (by rw [c_1_1]; rfl) (by decide) ?_
      cases hf
      exact j_throwW (E0 := "java/lang/IllegalStateException") (is := 312) (text := "the state does not allow it") (pc := 54) gx (by decide +kernel) (by decide +kernel) q_k_X8_247 q_n_ex3 at_251 ag_251 ⟨Nat.le_of_ble_eq_true rfl, Nat.le_of_ble_eq_true rfl⟩ (Nat.le_of_ble_eq_true rfl) dX8_throwFor_54 dX8_throwFor_57 dX8_throwFor_58 dX8_throwFor_61 dX8_throwFor_64
    · have hf := gx_if c_1_1 hf
      by_cases c_1_2 : p0 = -2
      · have hf := gx_it c_1_2 hf
        refine j_tableIn (tgt := 43) (pc := 1) g dX8_throwFor_1 (by rw [c_1_2]; decide) (by rw [c_1_2]; decide) (by rw [c_1_2]; rfl) (by decide) ?_
        cases hf
        exact j_throwW (E0 := "java/lang/IllegalArgumentException") (is := 310) (text := "an argument is out of range") (pc := 43) gx (by decide +kernel) (by decide +kernel) q_k_X8_175 q_n_ex2 at_179 ag_179 ⟨Nat.le_of_ble_eq_true rfl, Nat.le_of_ble_eq_true rfl⟩ (Nat.le_of_ble_eq_true rfl) dX8_throwFor_43 dX8_throwFor_46 dX8_throwFor_47 dX8_throwFor_50 dX8_throwFor_53
      · have hf := gx_if c_1_2 hf
        by_cases c_1_3 : p0 = -1
        · have hf := gx_it c_1_3 hf
          refine j_tableIn (tgt := 32) (pc := 1) g dX8_throwFor_1 (by rw [c_1_3]; decide) (by rw [c_1_3]; decide) (by rw [c_1_3]; rfl) (by decide) ?_
          cases hf
          exact j_throwW (E0 := "java/lang/IndexOutOfBoundsException") (is := 301) (text := "no such officer in the navy") (pc := 32) gx (by decide +kernel) (by decide +kernel) q_k_X8_282 q_n_ex1 at_286 ag_286 ⟨Nat.le_of_ble_eq_true rfl, Nat.le_of_ble_eq_true rfl⟩ (Nat.le_of_ble_eq_true rfl) dX8_throwFor_32 dX8_throwFor_35 dX8_throwFor_36 dX8_throwFor_39 dX8_throwFor_42
        · have hf := gx_if c_1_3 hf
          by_cases hlo : p0.toInt < -4
          · refine j_tableOut (tgt := 76) (pc := 1) g dX8_throwFor_1 (Or.inl hlo) (by decide) ?_
            cases hf
            exact j_throwN (is := 316) (text := "the flag is not in the code book") (pc := 76) gx rfl (by decide +kernel) q_k_X8_128 q_n_ex5 at_132 ag_132 ⟨Nat.le_of_ble_eq_true rfl, Nat.le_of_ble_eq_true rfl⟩ (Nat.le_of_ble_eq_true rfl) dX8_throwFor_76 dX8_throwFor_79 (Or.inr ⟨dX8_throwFor_80, rfl⟩) dX8_throwFor_83 dX8_throwFor_86
          · by_cases hhi : -1 < p0.toInt
            · refine j_tableOut (tgt := 76) (pc := 1) g dX8_throwFor_1 (Or.inr hhi) (by decide) ?_
              cases hf
              exact j_throwN (is := 316) (text := "the flag is not in the code book") (pc := 76) gx rfl (by decide +kernel) q_k_X8_128 q_n_ex5 at_132 ag_132 ⟨Nat.le_of_ble_eq_true rfl, Nat.le_of_ble_eq_true rfl⟩ (Nat.le_of_ble_eq_true rfl) dX8_throwFor_76 dX8_throwFor_79 (Or.inr ⟨dX8_throwFor_80, rfl⟩) dX8_throwFor_83 dX8_throwFor_86
            · exfalso
              have m_n4 := lv_neT c_1_0 (a := (-4)) rfl
              have m_n3 := lv_neT c_1_1 (a := (-3)) rfl
              have m_n2 := lv_neT c_1_2 (a := (-2)) rfl
              have m_n1 := lv_neT c_1_3 (a := (-1)) rfl
              omega

set_option maxRecDepth 100000 in
set_option maxHeartbeats 4000000 in
theorem eX8_rank_ {D : va_G} {t : Nat → ClassId} {aa : gx_AA} {l : Launch} {ad : Nat → Nat} {rs : va_W} {σ : CS} {p1 : Int32} {q : (Nat × CS)} (hf : xX8_rank σ p1 = some q) : gx_CX D t (gx_E0 aa) l yX8_rank cX8_rank 2 (some .int) 7 111 [.ref (ad 0), .int p1] (kW aa ad t σ rs) (kW aa ad t q.2 rs) (gx_en q.1) := by
  refine gx_intro_x (by decide) (Nat.le_of_ble_eq_true rfl) (fun J gx => ?_)
  have g := gx.g
  unfold xX8_rank at hf
  show J 0 0 (kW aa ad t σ rs) 0 [(0, .ref (ad 0)), (1, .int p1)] []
  refine j_aload_n (pc := 0) g 0 dX8_rank_0 rfl ?_
  refine j_iload_n (pc := 1) g 1 dX8_rank_1 rfl ?_
  rcases gx_ors hf with ⟨r2, h_2, hf⟩ | ⟨-, hf⟩
  · refine cK_X8_X8_requireOfficer_0 (σ := σ) (pc := 2) g (cX8_requireOfficer_ h_2) ⟨Nat.le_of_ble_eq_true rfl, Nat.le_of_ble_eq_true rfl⟩ ⟨Nat.zero_le _, Nat.zero_le _⟩ (Nat.le_of_ble_eq_true rfl) dX8_rank_2 ?_
    refine j_aload_n (pc := 5) g 0 dX8_rank_5 rfl ?_
    refine gK_X8_0_0 (σ := r2) (pc := 6) g dX8_rank_6 ?_
    refine gK_X8_1_0 (σ := r2) (pc := 9) g dX8_rank_9 ?_
    refine gK_X8_2_0 (σ := r2) (pc := 12) g dX8_rank_12 ?_
    refine j_iload_n (pc := 15) g 1 dX8_rank_15 rfl ?_
    obtain ⟨h_16, hf⟩ := gx_ck hf
    refine lK_X8_2_0 (σ := r2) (pc := 16) g h_16 dX8_rank_16 ?_
    cases hf
  · exact j_callVX (pc := 2) (na := 1) (As := [.int p1]) (rest := []) (q0 := 0) (ci := 9) gx (eX8_requireOfficer_ hf) q_i_X8_requireOfficer q_s_X8_requireOfficer rfl rfl rfl q_c_X8_requireOfficer q_l_X8_114 q_n_X8 (by decide +kernel) rfl ⟨Nat.le_of_ble_eq_true rfl, Nat.le_of_ble_eq_true rfl⟩ (Nat.le_of_ble_eq_true rfl) (.refl _) (.refl _) dX8_rank_2 rfl

set_option maxRecDepth 100000 in
set_option maxHeartbeats 4000000 in
theorem eX8_loyalty_ {D : va_G} {t : Nat → ClassId} {aa : gx_AA} {l : Launch} {ad : Nat → Nat} {rs : va_W} {σ : CS} {p1 : Int32} {q : (Nat × CS)} (hf : xX8_loyalty σ p1 = some q) : gx_CX D t (gx_E0 aa) l yX8_loyalty cX8_loyalty 2 (some .int) 7 111 [.ref (ad 0), .int p1] (kW aa ad t σ rs) (kW aa ad t q.2 rs) (gx_en q.1) := by
  refine gx_intro_x (by decide) (Nat.le_of_ble_eq_true rfl) (fun J gx => ?_)
  have g := gx.g
  unfold xX8_loyalty at hf
  show J 0 0 (kW aa ad t σ rs) 0 [(0, .ref (ad 0)), (1, .int p1)] []
  refine j_aload_n (pc := 0) g 0 dX8_loyalty_0 rfl ?_
  refine j_iload_n (pc := 1) g 1 dX8_loyalty_1 rfl ?_
  rcases gx_ors hf with ⟨r2, h_2, hf⟩ | ⟨-, hf⟩
  · refine cK_X8_X8_requireOfficer_0 (σ := σ) (pc := 2) g (cX8_requireOfficer_ h_2) ⟨Nat.le_of_ble_eq_true rfl, Nat.le_of_ble_eq_true rfl⟩ ⟨Nat.zero_le _, Nat.zero_le _⟩ (Nat.le_of_ble_eq_true rfl) dX8_loyalty_2 ?_
    refine j_aload_n (pc := 5) g 0 dX8_loyalty_5 rfl ?_
    refine gK_X8_0_0 (σ := r2) (pc := 6) g dX8_loyalty_6 ?_
    refine gK_X8_1_0 (σ := r2) (pc := 9) g dX8_loyalty_9 ?_
    refine gK_X8_2_1 (σ := r2) (pc := 12) g dX8_loyalty_12 ?_
    refine j_iload_n (pc := 15) g 1 dX8_loyalty_15 rfl ?_
    obtain ⟨h_16, hf⟩ := gx_ck hf
    refine lK_X8_2_1 (σ := r2) (pc := 16) g h_16 dX8_loyalty_16 ?_
    cases hf
  · exact j_callVX (pc := 2) (na := 1) (As := [.int p1]) (rest := []) (q0 := 0) (ci := 9) gx (eX8_requireOfficer_ hf) q_i_X8_requireOfficer q_s_X8_requireOfficer rfl rfl rfl q_c_X8_requireOfficer q_l_X8_114 q_n_X8 (by decide +kernel) rfl ⟨Nat.le_of_ble_eq_true rfl, Nat.le_of_ble_eq_true rfl⟩ (Nat.le_of_ble_eq_true rfl) (.refl _) (.refl _) dX8_loyalty_2 rfl

set_option maxRecDepth 100000 in
set_option maxHeartbeats 4000000 in
theorem eX8_refusals_ {D : va_G} {t : Nat → ClassId} {aa : gx_AA} {l : Launch} {ad : Nat → Nat} {rs : va_W} {σ : CS} {p1 : Int32} {q : (Nat × CS)} (hf : xX8_refusals σ p1 = some q) : gx_CX D t (gx_E0 aa) l yX8_refusals cX8_refusals 2 (some .int) 7 111 [.ref (ad 0), .int p1] (kW aa ad t σ rs) (kW aa ad t q.2 rs) (gx_en q.1) := by
  refine gx_intro_x (by decide) (Nat.le_of_ble_eq_true rfl) (fun J gx => ?_)
  have g := gx.g
  unfold xX8_refusals at hf
  show J 0 0 (kW aa ad t σ rs) 0 [(0, .ref (ad 0)), (1, .int p1)] []
  refine j_aload_n (pc := 0) g 0 dX8_refusals_0 rfl ?_
  refine j_iload_n (pc := 1) g 1 dX8_refusals_1 rfl ?_
  rcases gx_ors hf with ⟨r2, h_2, hf⟩ | ⟨-, hf⟩
  · refine cK_X8_X8_requireOfficer_0 (σ := σ) (pc := 2) g (cX8_requireOfficer_ h_2) ⟨Nat.le_of_ble_eq_true rfl, Nat.le_of_ble_eq_true rfl⟩ ⟨Nat.zero_le _, Nat.zero_le _⟩ (Nat.le_of_ble_eq_true rfl) dX8_refusals_2 ?_
    refine j_aload_n (pc := 5) g 0 dX8_refusals_5 rfl ?_
    refine gK_X8_0_0 (σ := r2) (pc := 6) g dX8_refusals_6 ?_
    refine gK_X8_1_0 (σ := r2) (pc := 9) g dX8_refusals_9 ?_
    refine gK_X8_2_2 (σ := r2) (pc := 12) g dX8_refusals_12 ?_
    refine j_iload_n (pc := 15) g 1 dX8_refusals_15 rfl ?_
    obtain ⟨h_16, hf⟩ := gx_ck hf
    refine lK_X8_2_2 (σ := r2) (pc := 16) g h_16 dX8_refusals_16 ?_
    cases hf
  · exact j_callVX (pc := 2) (na := 1) (As := [.int p1]) (rest := []) (q0 := 0) (ci := 9) gx (eX8_requireOfficer_ hf) q_i_X8_requireOfficer q_s_X8_requireOfficer rfl rfl rfl q_c_X8_requireOfficer q_l_X8_114 q_n_X8 (by decide +kernel) rfl ⟨Nat.le_of_ble_eq_true rfl, Nat.le_of_ble_eq_true rfl⟩ (Nat.le_of_ble_eq_true rfl) (.refl _) (.refl _) dX8_refusals_2 rfl

set_option maxRecDepth 100000 in
set_option maxHeartbeats 4000000 in
theorem eX8_superior_ {D : va_G} {t : Nat → ClassId} {aa : gx_AA} {l : Launch} {ad : Nat → Nat} {rs : va_W} {σ : CS} {p1 : Int32} {q : (Nat × CS)} (hf : xX8_superior σ p1 = some q) : gx_CX D t (gx_E0 aa) l yX8_superior cX8_superior 2 (some .int) 7 111 [.ref (ad 0), .int p1] (kW aa ad t σ rs) (kW aa ad t q.2 rs) (gx_en q.1) := by
  refine gx_intro_x (by decide) (Nat.le_of_ble_eq_true rfl) (fun J gx => ?_)
  have g := gx.g
  unfold xX8_superior at hf
  show J 0 0 (kW aa ad t σ rs) 0 [(0, .ref (ad 0)), (1, .int p1)] []
  refine j_aload_n (pc := 0) g 0 dX8_superior_0 rfl ?_
  refine j_iload_n (pc := 1) g 1 dX8_superior_1 rfl ?_
  rcases gx_ors hf with ⟨r2, h_2, hf⟩ | ⟨-, hf⟩
  · refine cK_X8_X8_requireOfficer_0 (σ := σ) (pc := 2) g (cX8_requireOfficer_ h_2) ⟨Nat.le_of_ble_eq_true rfl, Nat.le_of_ble_eq_true rfl⟩ ⟨Nat.zero_le _, Nat.zero_le _⟩ (Nat.le_of_ble_eq_true rfl) dX8_superior_2 ?_
    refine j_iload_n (pc := 5) g 1 dX8_superior_5 rfl ?_
    refine j_if_ne (tgt := 19) (pc := 6) g dX8_superior_6 (by decide) (fun c_6 => ?_) (fun c_6 => ?_)
    · have hf := gx_if c_6 hf
      refine j_aload_n (pc := 19) g 0 dX8_superior_19 rfl ?_
      refine gK_X8_0_0 (σ := r2) (pc := 20) g dX8_superior_20 ?_
      refine gK_X8_1_0 (σ := r2) (pc := 23) g dX8_superior_23 ?_
      refine gK_X8_2_3 (σ := r2) (pc := 26) g dX8_superior_26 ?_
      refine j_iload_n (pc := 29) g 1 dX8_superior_29 rfl ?_
      obtain ⟨h_30, hf⟩ := gx_ck hf
      refine lK_X8_2_3 (σ := r2) (pc := 30) g h_30 dX8_superior_30 ?_
      cases hf
    · have hf := gx_it c_6 hf
      cases hf
      exact j_throwN (is := 130) (text := "the admiral has no superior") (pc := 9) gx rfl (by decide +kernel) q_k_X8_128 q_n_ex5 at_132 ag_132 ⟨Nat.le_of_ble_eq_true rfl, Nat.le_of_ble_eq_true rfl⟩ (Nat.le_of_ble_eq_true rfl) dX8_superior_9 dX8_superior_12 (Or.inl ⟨dX8_superior_13, rfl⟩) dX8_superior_15 dX8_superior_18
  · exact j_callVX (pc := 2) (na := 1) (As := [.int p1]) (rest := []) (q0 := 0) (ci := 9) gx (eX8_requireOfficer_ hf) q_i_X8_requireOfficer q_s_X8_requireOfficer rfl rfl rfl q_c_X8_requireOfficer q_l_X8_114 q_n_X8 (by decide +kernel) rfl ⟨Nat.le_of_ble_eq_true rfl, Nat.le_of_ble_eq_true rfl⟩ (Nat.le_of_ble_eq_true rfl) (.refl _) (.refl _) dX8_superior_2 rfl

set_option maxRecDepth 100000 in
set_option maxHeartbeats 4000000 in
theorem eX8_subordinates_ {D : va_G} {t : Nat → ClassId} {aa : gx_AA} {l : Launch} {ad : Nat → Nat} {rs : va_W} {σ : CS} {p1 : Int32} {q : (Nat × CS)} (hf : xX8_subordinates σ p1 = some q) : gx_CX D t (gx_E0 aa) l yX8_subordinates cX8_subordinates 2 (some .int) 7 111 [.ref (ad 0), .int p1] (kW aa ad t σ rs) (kW aa ad t q.2 rs) (gx_en q.1) := by
  refine gx_intro_x (by decide) (Nat.le_of_ble_eq_true rfl) (fun J gx => ?_)
  have g := gx.g
  unfold xX8_subordinates at hf
  show J 0 0 (kW aa ad t σ rs) 0 [(0, .ref (ad 0)), (1, .int p1)] []
  refine j_aload_n (pc := 0) g 0 dX8_subordinates_0 rfl ?_
  refine j_iload_n (pc := 1) g 1 dX8_subordinates_1 rfl ?_
  rcases gx_ors hf with ⟨r2, h_2, hf⟩ | ⟨-, hf⟩
  · refine cK_X8_X8_requireOfficer_0 (σ := σ) (pc := 2) g (cX8_requireOfficer_ h_2) ⟨Nat.le_of_ble_eq_true rfl, Nat.le_of_ble_eq_true rfl⟩ ⟨Nat.zero_le _, Nat.zero_le _⟩ (Nat.le_of_ble_eq_true rfl) dX8_subordinates_2 ?_
    refine j_aload_n (pc := 5) g 0 dX8_subordinates_5 rfl ?_
    refine gK_X8_0_0 (σ := r2) (pc := 6) g dX8_subordinates_6 ?_
    refine gK_X8_1_0 (σ := r2) (pc := 9) g dX8_subordinates_9 ?_
    refine j_iload_n (pc := 12) g 1 dX8_subordinates_12 rfl ?_
    obtain ⟨r13, h_13, hf⟩ := gx_bs hf
    refine cK_X8_X3_countSubordinates_2 (σ := r2) (pc := 13) g (cX3_countSubordinates_ (ad := (fun p => ad (p + 2))) h_13) ⟨Nat.le_of_ble_eq_true rfl, Nat.le_of_ble_eq_true rfl⟩ ⟨Nat.zero_le _, Nat.zero_le _⟩ (Nat.le_of_ble_eq_true rfl) dX8_subordinates_13 ?_
    cases hf
  · exact j_callVX (pc := 2) (na := 1) (As := [.int p1]) (rest := []) (q0 := 0) (ci := 9) gx (eX8_requireOfficer_ hf) q_i_X8_requireOfficer q_s_X8_requireOfficer rfl rfl rfl q_c_X8_requireOfficer q_l_X8_114 q_n_X8 (by decide +kernel) rfl ⟨Nat.le_of_ble_eq_true rfl, Nat.le_of_ble_eq_true rfl⟩ (Nat.le_of_ble_eq_true rfl) (.refl _) (.refl _) dX8_subordinates_2 rfl

set_option maxRecDepth 100000 in
set_option maxHeartbeats 4000000 in
theorem eX8_depth_ {D : va_G} {t : Nat → ClassId} {aa : gx_AA} {l : Launch} {ad : Nat → Nat} {rs : va_W} {σ : CS} {p1 : Int32} {q : (Nat × CS)} (hf : xX8_depth σ p1 = some q) : gx_CX D t (gx_E0 aa) l yX8_depth cX8_depth 2 (some .int) 7 111 [.ref (ad 0), .int p1] (kW aa ad t σ rs) (kW aa ad t q.2 rs) (gx_en q.1) := by
  refine gx_intro_x (by decide) (Nat.le_of_ble_eq_true rfl) (fun J gx => ?_)
  have g := gx.g
  unfold xX8_depth at hf
  show J 0 0 (kW aa ad t σ rs) 0 [(0, .ref (ad 0)), (1, .int p1)] []
  refine j_aload_n (pc := 0) g 0 dX8_depth_0 rfl ?_
  refine j_iload_n (pc := 1) g 1 dX8_depth_1 rfl ?_
  rcases gx_ors hf with ⟨r2, h_2, hf⟩ | ⟨-, hf⟩
  · refine cK_X8_X8_requireOfficer_0 (σ := σ) (pc := 2) g (cX8_requireOfficer_ h_2) ⟨Nat.le_of_ble_eq_true rfl, Nat.le_of_ble_eq_true rfl⟩ ⟨Nat.zero_le _, Nat.zero_le _⟩ (Nat.le_of_ble_eq_true rfl) dX8_depth_2 ?_
    refine j_aload_n (pc := 5) g 0 dX8_depth_5 rfl ?_
    refine gK_X8_0_0 (σ := r2) (pc := 6) g dX8_depth_6 ?_
    refine gK_X8_1_0 (σ := r2) (pc := 9) g dX8_depth_9 ?_
    refine j_iload_n (pc := 12) g 1 dX8_depth_12 rfl ?_
    obtain ⟨r13, h_13, hf⟩ := gx_bs hf
    refine cK_X8_X3_climbDepth_2 (σ := r2) (pc := 13) g (cX3_climbDepth_ (ad := (fun p => ad (p + 2))) h_13) ⟨Nat.le_of_ble_eq_true rfl, Nat.le_of_ble_eq_true rfl⟩ ⟨Nat.zero_le _, Nat.zero_le _⟩ (Nat.le_of_ble_eq_true rfl) dX8_depth_13 ?_
    cases hf
  · exact j_callVX (pc := 2) (na := 1) (As := [.int p1]) (rest := []) (q0 := 0) (ci := 9) gx (eX8_requireOfficer_ hf) q_i_X8_requireOfficer q_s_X8_requireOfficer rfl rfl rfl q_c_X8_requireOfficer q_l_X8_114 q_n_X8 (by decide +kernel) rfl ⟨Nat.le_of_ble_eq_true rfl, Nat.le_of_ble_eq_true rfl⟩ (Nat.le_of_ble_eq_true rfl) (.refl _) (.refl _) dX8_depth_2 rfl

set_option maxRecDepth 100000 in
set_option maxHeartbeats 4000000 in
theorem eX8_depthFromTop_ {D : va_G} {t : Nat → ClassId} {aa : gx_AA} {l : Launch} {ad : Nat → Nat} {rs : va_W} {σ : CS} {p1 : Int32} {q : (Nat × CS)} (hf : xX8_depthFromTop σ p1 = some q) : gx_CX D t (gx_E0 aa) l yX8_depthFromTop cX8_depthFromTop 2 (some .int) 17 425 [.ref (ad 0), .int p1] (kW aa ad t σ rs) (kW aa ad t q.2 rs) (gx_en q.1) := by
  refine gx_intro_x (by decide) (Nat.le_of_ble_eq_true rfl) (fun J gx => ?_)
  have g := gx.g
  unfold xX8_depthFromTop at hf
  show J 0 0 (kW aa ad t σ rs) 0 [(0, .ref (ad 0)), (1, .int p1)] []
  refine j_aload_n (pc := 0) g 0 dX8_depthFromTop_0 rfl ?_
  refine j_iload_n (pc := 1) g 1 dX8_depthFromTop_1 rfl ?_
  rcases gx_ors hf with ⟨r2, h_2, hf⟩ | ⟨-, hf⟩
  · refine cK_X8_X8_requireOfficer_0 (σ := σ) (pc := 2) g (cX8_requireOfficer_ h_2) ⟨Nat.le_of_ble_eq_true rfl, Nat.le_of_ble_eq_true rfl⟩ ⟨Nat.zero_le _, Nat.zero_le _⟩ (Nat.le_of_ble_eq_true rfl) dX8_depthFromTop_2 ?_
    refine j_aload_n (pc := 5) g 0 dX8_depthFromTop_5 rfl ?_
    refine gK_X8_0_0 (σ := r2) (pc := 6) g dX8_depthFromTop_6 ?_
    refine gK_X8_1_0 (σ := r2) (pc := 9) g dX8_depthFromTop_9 ?_
    refine j_iconst (v := 0) (pc := 12) g dX8_depthFromTop_12 (by decide) ?_
    refine j_iload_n (pc := 13) g 1 dX8_depthFromTop_13 rfl ?_
    refine j_iconst (v := 0) (pc := 14) g dX8_depthFromTop_14 (by decide) ?_
    obtain ⟨r15, h_15, hf⟩ := gx_bs hf
    refine cK_X8_X3_searchDepth_2 (σ := r2) (pc := 15) g (cX3_searchDepth_ (ad := (fun p => ad (p + 2))) 16 h_15) ⟨Nat.le_of_ble_eq_true rfl, Nat.le_of_ble_eq_true rfl⟩ ⟨Nat.zero_le _, Nat.zero_le _⟩ (Nat.le_of_ble_eq_true rfl) dX8_depthFromTop_15 ?_
    cases hf
  · exact j_callVX (pc := 2) (na := 1) (As := [.int p1]) (rest := []) (q0 := 0) (ci := 9) gx (eX8_requireOfficer_ hf) q_i_X8_requireOfficer q_s_X8_requireOfficer rfl rfl rfl q_c_X8_requireOfficer q_l_X8_114 q_n_X8 (by decide +kernel) rfl ⟨Nat.le_of_ble_eq_true rfl, Nat.le_of_ble_eq_true rfl⟩ (Nat.le_of_ble_eq_true rfl) (.refl _) (.refl _) dX8_depthFromTop_2 rfl

set_option maxRecDepth 100000 in
set_option maxHeartbeats 4000000 in
theorem eX8_commandSize_ {D : va_G} {t : Nat → ClassId} {aa : gx_AA} {l : Launch} {ad : Nat → Nat} {rs : va_W} {σ : CS} {p1 : Int32} {q : (Nat × CS)} (hf : xX8_commandSize σ p1 = some q) : gx_CX D t (gx_E0 aa) l yX8_commandSize cX8_commandSize 2 (some .int) 17 408 [.ref (ad 0), .int p1] (kW aa ad t σ rs) (kW aa ad t q.2 rs) (gx_en q.1) := by
  refine gx_intro_x (by decide) (Nat.le_of_ble_eq_true rfl) (fun J gx => ?_)
  have g := gx.g
  unfold xX8_commandSize at hf
  show J 0 0 (kW aa ad t σ rs) 0 [(0, .ref (ad 0)), (1, .int p1)] []
  refine j_aload_n (pc := 0) g 0 dX8_commandSize_0 rfl ?_
  refine j_iload_n (pc := 1) g 1 dX8_commandSize_1 rfl ?_
  rcases gx_ors hf with ⟨r2, h_2, hf⟩ | ⟨-, hf⟩
  · refine cK_X8_X8_requireOfficer_0 (σ := σ) (pc := 2) g (cX8_requireOfficer_ h_2) ⟨Nat.le_of_ble_eq_true rfl, Nat.le_of_ble_eq_true rfl⟩ ⟨Nat.zero_le _, Nat.zero_le _⟩ (Nat.le_of_ble_eq_true rfl) dX8_commandSize_2 ?_
    refine j_aload_n (pc := 5) g 0 dX8_commandSize_5 rfl ?_
    refine gK_X8_0_0 (σ := r2) (pc := 6) g dX8_commandSize_6 ?_
    refine gK_X8_1_0 (σ := r2) (pc := 9) g dX8_commandSize_9 ?_
    refine j_iload_n (pc := 12) g 1 dX8_commandSize_12 rfl ?_
    refine j_iconst (v := 0) (pc := 13) g dX8_commandSize_13 (by decide) ?_
    obtain ⟨r14, h_14, hf⟩ := gx_bs hf
    refine cK_X8_X3_sizeGoingDown_2 (σ := r2) (pc := 14) g (cX3_sizeGoingDown_ (ad := (fun p => ad (p + 2))) 16 h_14) ⟨Nat.le_of_ble_eq_true rfl, Nat.le_of_ble_eq_true rfl⟩ ⟨Nat.zero_le _, Nat.zero_le _⟩ (Nat.le_of_ble_eq_true rfl) dX8_commandSize_14 ?_
    cases hf
  · exact j_callVX (pc := 2) (na := 1) (As := [.int p1]) (rest := []) (q0 := 0) (ci := 9) gx (eX8_requireOfficer_ hf) q_i_X8_requireOfficer q_s_X8_requireOfficer rfl rfl rfl q_c_X8_requireOfficer q_l_X8_114 q_n_X8 (by decide +kernel) rfl ⟨Nat.le_of_ble_eq_true rfl, Nat.le_of_ble_eq_true rfl⟩ (Nat.le_of_ble_eq_true rfl) (.refl _) (.refl _) dX8_commandSize_2 rfl

set_option maxRecDepth 100000 in
set_option maxHeartbeats 4000000 in
theorem eX8_commandSizeByCounting_ {D : va_G} {t : Nat → ClassId} {aa : gx_AA} {l : Launch} {ad : Nat → Nat} {rs : va_W} {σ : CS} {p1 : Int32} {q : (Nat × CS)} (hf : xX8_commandSizeByCounting σ p1 = some q) : gx_CX D t (gx_E0 aa) l yX8_commandSizeByCounting cX8_commandSizeByCounting 2 (some .int) 7 111 [.ref (ad 0), .int p1] (kW aa ad t σ rs) (kW aa ad t q.2 rs) (gx_en q.1) := by
  refine gx_intro_x (by decide) (Nat.le_of_ble_eq_true rfl) (fun J gx => ?_)
  have g := gx.g
  unfold xX8_commandSizeByCounting at hf
  show J 0 0 (kW aa ad t σ rs) 0 [(0, .ref (ad 0)), (1, .int p1)] []
  refine j_aload_n (pc := 0) g 0 dX8_commandSizeByCounting_0 rfl ?_
  refine j_iload_n (pc := 1) g 1 dX8_commandSizeByCounting_1 rfl ?_
  rcases gx_ors hf with ⟨r2, h_2, hf⟩ | ⟨-, hf⟩
  · refine cK_X8_X8_requireOfficer_0 (σ := σ) (pc := 2) g (cX8_requireOfficer_ h_2) ⟨Nat.le_of_ble_eq_true rfl, Nat.le_of_ble_eq_true rfl⟩ ⟨Nat.zero_le _, Nat.zero_le _⟩ (Nat.le_of_ble_eq_true rfl) dX8_commandSizeByCounting_2 ?_
    refine j_aload_n (pc := 5) g 0 dX8_commandSizeByCounting_5 rfl ?_
    refine gK_X8_0_0 (σ := r2) (pc := 6) g dX8_commandSizeByCounting_6 ?_
    refine gK_X8_1_0 (σ := r2) (pc := 9) g dX8_commandSizeByCounting_9 ?_
    refine j_iload_n (pc := 12) g 1 dX8_commandSizeByCounting_12 rfl ?_
    obtain ⟨r13, h_13, hf⟩ := gx_bs hf
    refine cK_X8_X3_countCommand_2 (σ := r2) (pc := 13) g (cX3_countCommand_ (ad := (fun p => ad (p + 2))) h_13) ⟨Nat.le_of_ble_eq_true rfl, Nat.le_of_ble_eq_true rfl⟩ ⟨Nat.zero_le _, Nat.zero_le _⟩ (Nat.le_of_ble_eq_true rfl) dX8_commandSizeByCounting_13 ?_
    cases hf
  · exact j_callVX (pc := 2) (na := 1) (As := [.int p1]) (rest := []) (q0 := 0) (ci := 9) gx (eX8_requireOfficer_ hf) q_i_X8_requireOfficer q_s_X8_requireOfficer rfl rfl rfl q_c_X8_requireOfficer q_l_X8_114 q_n_X8 (by decide +kernel) rfl ⟨Nat.le_of_ble_eq_true rfl, Nat.le_of_ble_eq_true rfl⟩ (Nat.le_of_ble_eq_true rfl) (.refl _) (.refl _) dX8_commandSizeByCounting_2 rfl

set_option maxRecDepth 100000 in
set_option maxHeartbeats 4000000 in
theorem eX8_isAbove_ {D : va_G} {t : Nat → ClassId} {aa : gx_AA} {l : Launch} {ad : Nat → Nat} {rs : va_W} {σ : CS} {p1 : Int32} {p2 : Int32} {q : (Nat × CS)} (hf : xX8_isAbove σ p1 p2 = some q) : gx_CX D t (gx_E0 aa) l yX8_isAbove cX8_isAbove 3 (some .boolean) 7 111 [.ref (ad 0), .int p1, .int p2] (kW aa ad t σ rs) (kW aa ad t q.2 rs) (gx_en q.1) := by
  refine gx_intro_x (by decide) (Nat.le_of_ble_eq_true rfl) (fun J gx => ?_)
  have g := gx.g
  unfold xX8_isAbove at hf
  show J 0 0 (kW aa ad t σ rs) 0 [(0, .ref (ad 0)), (1, .int p1), (2, .int p2)] []
  refine j_aload_n (pc := 0) g 0 dX8_isAbove_0 rfl ?_
  refine j_iload_n (pc := 1) g 1 dX8_isAbove_1 rfl ?_
  rcases gx_ors hf with ⟨r2, h_2, hf⟩ | ⟨-, hf⟩
  · refine cK_X8_X8_requireOfficer_0 (σ := σ) (pc := 2) g (cX8_requireOfficer_ h_2) ⟨Nat.le_of_ble_eq_true rfl, Nat.le_of_ble_eq_true rfl⟩ ⟨Nat.zero_le _, Nat.zero_le _⟩ (Nat.le_of_ble_eq_true rfl) dX8_isAbove_2 ?_
    refine j_aload_n (pc := 5) g 0 dX8_isAbove_5 rfl ?_
    refine j_iload_n (pc := 6) g 2 dX8_isAbove_6 rfl ?_
    rcases gx_ors hf with ⟨r7, h_7, hf⟩ | ⟨-, hf⟩
    · refine cK_X8_X8_requireOfficer_0 (σ := r2) (pc := 7) g (cX8_requireOfficer_ h_7) ⟨Nat.le_of_ble_eq_true rfl, Nat.le_of_ble_eq_true rfl⟩ ⟨Nat.zero_le _, Nat.zero_le _⟩ (Nat.le_of_ble_eq_true rfl) dX8_isAbove_7 ?_
      refine j_aload_n (pc := 10) g 0 dX8_isAbove_10 rfl ?_
      refine gK_X8_0_0 (σ := r7) (pc := 11) g dX8_isAbove_11 ?_
      refine gK_X8_1_0 (σ := r7) (pc := 14) g dX8_isAbove_14 ?_
      refine j_iload_n (pc := 17) g 1 dX8_isAbove_17 rfl ?_
      refine j_iload_n (pc := 18) g 2 dX8_isAbove_18 rfl ?_
      obtain ⟨r19, h_19, hf⟩ := gx_bs hf
      refine cK_X8_X3_isOver_2 (σ := r7) (pc := 19) g (cX3_isOver_ (ad := (fun p => ad (p + 2))) h_19) ⟨Nat.le_of_ble_eq_true rfl, Nat.le_of_ble_eq_true rfl⟩ ⟨Nat.zero_le _, Nat.zero_le _⟩ (Nat.le_of_ble_eq_true rfl) dX8_isAbove_19 ?_
      cases hf
    · exact j_callVX (pc := 7) (na := 1) (As := [.int p2]) (rest := []) (q0 := 0) (ci := 9) gx (eX8_requireOfficer_ hf) q_i_X8_requireOfficer q_s_X8_requireOfficer rfl rfl rfl q_c_X8_requireOfficer q_l_X8_114 q_n_X8 (by decide +kernel) rfl ⟨Nat.le_of_ble_eq_true rfl, Nat.le_of_ble_eq_true rfl⟩ (Nat.le_of_ble_eq_true rfl) (.refl _) (.refl _) dX8_isAbove_7 rfl
  · exact j_callVX (pc := 2) (na := 1) (As := [.int p1]) (rest := []) (q0 := 0) (ci := 9) gx (eX8_requireOfficer_ hf) q_i_X8_requireOfficer q_s_X8_requireOfficer rfl rfl rfl q_c_X8_requireOfficer q_l_X8_114 q_n_X8 (by decide +kernel) rfl ⟨Nat.le_of_ble_eq_true rfl, Nat.le_of_ble_eq_true rfl⟩ (Nat.le_of_ble_eq_true rfl) (.refl _) (.refl _) dX8_isAbove_2 rfl

set_option maxRecDepth 100000 in
set_option maxHeartbeats 4000000 in
theorem eX8_commonSuperior_ {D : va_G} {t : Nat → ClassId} {aa : gx_AA} {l : Launch} {ad : Nat → Nat} {rs : va_W} {σ : CS} {p1 : Int32} {p2 : Int32} {q : (Nat × CS)} (hf : xX8_commonSuperior σ p1 p2 = some q) : gx_CX D t (gx_E0 aa) l yX8_commonSuperior cX8_commonSuperior 3 (some .int) 7 111 [.ref (ad 0), .int p1, .int p2] (kW aa ad t σ rs) (kW aa ad t q.2 rs) (gx_en q.1) := by
  refine gx_intro_x (by decide) (Nat.le_of_ble_eq_true rfl) (fun J gx => ?_)
  have g := gx.g
  unfold xX8_commonSuperior at hf
  show J 0 0 (kW aa ad t σ rs) 0 [(0, .ref (ad 0)), (1, .int p1), (2, .int p2)] []
  refine j_aload_n (pc := 0) g 0 dX8_commonSuperior_0 rfl ?_
  refine j_iload_n (pc := 1) g 1 dX8_commonSuperior_1 rfl ?_
  rcases gx_ors hf with ⟨r2, h_2, hf⟩ | ⟨-, hf⟩
  · refine cK_X8_X8_requireOfficer_0 (σ := σ) (pc := 2) g (cX8_requireOfficer_ h_2) ⟨Nat.le_of_ble_eq_true rfl, Nat.le_of_ble_eq_true rfl⟩ ⟨Nat.zero_le _, Nat.zero_le _⟩ (Nat.le_of_ble_eq_true rfl) dX8_commonSuperior_2 ?_
    refine j_aload_n (pc := 5) g 0 dX8_commonSuperior_5 rfl ?_
    refine j_iload_n (pc := 6) g 2 dX8_commonSuperior_6 rfl ?_
    rcases gx_ors hf with ⟨r7, h_7, hf⟩ | ⟨-, hf⟩
    · refine cK_X8_X8_requireOfficer_0 (σ := r2) (pc := 7) g (cX8_requireOfficer_ h_7) ⟨Nat.le_of_ble_eq_true rfl, Nat.le_of_ble_eq_true rfl⟩ ⟨Nat.zero_le _, Nat.zero_le _⟩ (Nat.le_of_ble_eq_true rfl) dX8_commonSuperior_7 ?_
      refine j_aload_n (pc := 10) g 0 dX8_commonSuperior_10 rfl ?_
      refine gK_X8_0_0 (σ := r7) (pc := 11) g dX8_commonSuperior_11 ?_
      refine gK_X8_1_0 (σ := r7) (pc := 14) g dX8_commonSuperior_14 ?_
      refine j_iload_n (pc := 17) g 1 dX8_commonSuperior_17 rfl ?_
      refine j_iload_n (pc := 18) g 2 dX8_commonSuperior_18 rfl ?_
      obtain ⟨r19, h_19, hf⟩ := gx_bs hf
      refine cK_X8_X3_lowestOverBoth_2 (σ := r7) (pc := 19) g (cX3_lowestOverBoth_ (ad := (fun p => ad (p + 2))) h_19) ⟨Nat.le_of_ble_eq_true rfl, Nat.le_of_ble_eq_true rfl⟩ ⟨Nat.zero_le _, Nat.zero_le _⟩ (Nat.le_of_ble_eq_true rfl) dX8_commonSuperior_19 ?_
      cases hf
    · exact j_callVX (pc := 7) (na := 1) (As := [.int p2]) (rest := []) (q0 := 0) (ci := 9) gx (eX8_requireOfficer_ hf) q_i_X8_requireOfficer q_s_X8_requireOfficer rfl rfl rfl q_c_X8_requireOfficer q_l_X8_114 q_n_X8 (by decide +kernel) rfl ⟨Nat.le_of_ble_eq_true rfl, Nat.le_of_ble_eq_true rfl⟩ (Nat.le_of_ble_eq_true rfl) (.refl _) (.refl _) dX8_commonSuperior_7 rfl
  · exact j_callVX (pc := 2) (na := 1) (As := [.int p1]) (rest := []) (q0 := 0) (ci := 9) gx (eX8_requireOfficer_ hf) q_i_X8_requireOfficer q_s_X8_requireOfficer rfl rfl rfl q_c_X8_requireOfficer q_l_X8_114 q_n_X8 (by decide +kernel) rfl ⟨Nat.le_of_ble_eq_true rfl, Nat.le_of_ble_eq_true rfl⟩ (Nat.le_of_ble_eq_true rfl) (.refl _) (.refl _) dX8_commonSuperior_2 rfl

set_option maxRecDepth 100000 in
set_option maxHeartbeats 4000000 in
theorem eX8_hoursFor_ {D : va_G} {t : Nat → ClassId} {aa : gx_AA} {l : Launch} {ad : Nat → Nat} {rs : va_W} {σ : CS} {p1 : Int32} {p2 : Int32} {q : (Nat × CS)} (hf : xX8_hoursFor σ p1 p2 = some q) : gx_CX D t (gx_E0 aa) l yX8_hoursFor cX8_hoursFor 3 (some .int) 7 112 [.ref (ad 0), .int p1, .int p2] (kW aa ad t σ rs) (kW aa ad t q.2 rs) (gx_en q.1) := by
  refine gx_intro_x (by decide) (Nat.le_of_ble_eq_true rfl) (fun J gx => ?_)
  have g := gx.g
  unfold xX8_hoursFor at hf
  show J 0 0 (kW aa ad t σ rs) 0 [(0, .ref (ad 0)), (1, .int p1), (2, .int p2)] []
  refine j_aload_n (pc := 0) g 0 dX8_hoursFor_0 rfl ?_
  refine j_iload_n (pc := 1) g 1 dX8_hoursFor_1 rfl ?_
  rcases gx_ors hf with ⟨r2, h_2, hf⟩ | ⟨-, hf⟩
  · refine cK_X8_X8_requireOfficer_0 (σ := σ) (pc := 2) g (cX8_requireOfficer_ h_2) ⟨Nat.le_of_ble_eq_true rfl, Nat.le_of_ble_eq_true rfl⟩ ⟨Nat.zero_le _, Nat.zero_le _⟩ (Nat.le_of_ble_eq_true rfl) dX8_hoursFor_2 ?_
    refine j_aload_n (pc := 5) g 0 dX8_hoursFor_5 rfl ?_
    refine j_iload_n (pc := 6) g 2 dX8_hoursFor_6 rfl ?_
    rcases gx_ors hf with ⟨r7, h_7, hf⟩ | ⟨-, hf⟩
    · refine cK_X8_X8_requireOfficer_0 (σ := r2) (pc := 7) g (cX8_requireOfficer_ h_7) ⟨Nat.le_of_ble_eq_true rfl, Nat.le_of_ble_eq_true rfl⟩ ⟨Nat.zero_le _, Nat.zero_le _⟩ (Nat.le_of_ble_eq_true rfl) dX8_hoursFor_7 ?_
      refine j_aload_n (pc := 10) g 0 dX8_hoursFor_10 rfl ?_
      refine j_iload_n (pc := 11) g 1 dX8_hoursFor_11 rfl ?_
      refine j_iload_n (pc := 12) g 2 dX8_hoursFor_12 rfl ?_
      rcases gx_ors hf with ⟨r13, h_13, hf⟩ | ⟨-, hf⟩
      · refine cK_X8_X8_requireWay_0 (σ := r7) (pc := 13) g (cX8_requireWay_ h_13) ⟨Nat.le_of_ble_eq_true rfl, Nat.le_of_ble_eq_true rfl⟩ ⟨Nat.zero_le _, Nat.zero_le _⟩ (Nat.le_of_ble_eq_true rfl) dX8_hoursFor_13 ?_
        refine j_aload_n (pc := 16) g 0 dX8_hoursFor_16 rfl ?_
        refine gK_X8_0_0 (σ := r13) (pc := 17) g dX8_hoursFor_17 ?_
        refine gK_X8_1_0 (σ := r13) (pc := 20) g dX8_hoursFor_20 ?_
        refine j_iload_n (pc := 23) g 2 dX8_hoursFor_23 rfl ?_
        obtain ⟨r24, h_24, hf⟩ := gx_bs hf
        refine cK_X8_X3_climbDepth_2 (σ := r13) (pc := 24) g (cX3_climbDepth_ (ad := (fun p => ad (p + 2))) h_24) ⟨Nat.le_of_ble_eq_true rfl, Nat.le_of_ble_eq_true rfl⟩ ⟨Nat.zero_le _, Nat.zero_le _⟩ (Nat.le_of_ble_eq_true rfl) dX8_hoursFor_24 ?_
        refine j_aload_n (pc := 27) g 0 dX8_hoursFor_27 rfl ?_
        refine gK_X8_0_0 (σ := r13) (pc := 28) g dX8_hoursFor_28 ?_
        refine gK_X8_1_0 (σ := r13) (pc := 31) g dX8_hoursFor_31 ?_
        refine j_iload_n (pc := 34) g 1 dX8_hoursFor_34 rfl ?_
        obtain ⟨r35, h_35, hf⟩ := gx_bs hf
        refine cK_X8_X3_climbDepth_2 (σ := r13) (pc := 35) g (cX3_climbDepth_ (ad := (fun p => ad (p + 2))) h_35) ⟨Nat.le_of_ble_eq_true rfl, Nat.le_of_ble_eq_true rfl⟩ ⟨Nat.zero_le _, Nat.zero_le _⟩ (Nat.le_of_ble_eq_true rfl) dX8_hoursFor_35 ?_
        refine j_isub (pc := 38) g dX8_hoursFor_38 ?_
        cases hf
      · exact j_callVX (pc := 13) (na := 2) (As := [.int p1, .int p2]) (rest := []) (q0 := 0) (ci := 9) gx (eX8_requireWay_ hf) q_i_X8_requireWay q_s_X8_requireWay rfl rfl rfl q_c_X8_requireWay q_l_X8_165 q_n_X8 (by decide +kernel) rfl ⟨Nat.le_of_ble_eq_true rfl, Nat.le_of_ble_eq_true rfl⟩ (Nat.le_of_ble_eq_true rfl) (.refl _) (.refl _) dX8_hoursFor_13 rfl
    · exact j_callVX (pc := 7) (na := 1) (As := [.int p2]) (rest := []) (q0 := 0) (ci := 9) gx (eX8_requireOfficer_ hf) q_i_X8_requireOfficer q_s_X8_requireOfficer rfl rfl rfl q_c_X8_requireOfficer q_l_X8_114 q_n_X8 (by decide +kernel) rfl ⟨Nat.le_of_ble_eq_true rfl, Nat.le_of_ble_eq_true rfl⟩ (Nat.le_of_ble_eq_true rfl) (.refl _) (.refl _) dX8_hoursFor_7 rfl
  · exact j_callVX (pc := 2) (na := 1) (As := [.int p1]) (rest := []) (q0 := 0) (ci := 9) gx (eX8_requireOfficer_ hf) q_i_X8_requireOfficer q_s_X8_requireOfficer rfl rfl rfl q_c_X8_requireOfficer q_l_X8_114 q_n_X8 (by decide +kernel) rfl ⟨Nat.le_of_ble_eq_true rfl, Nat.le_of_ble_eq_true rfl⟩ (Nat.le_of_ble_eq_true rfl) (.refl _) (.refl _) dX8_hoursFor_2 rfl

set_option maxRecDepth 100000 in
set_option maxHeartbeats 4000000 in
theorem eX8_greatestSeverity_ {D : va_G} {t : Nat → ClassId} {aa : gx_AA} {l : Launch} {ad : Nat → Nat} {rs : va_W} {σ : CS} {p1 : Int32} {p2 : Int32} {q : (Nat × CS)} (hf : xX8_greatestSeverity σ p1 p2 = some q) : gx_CX D t (gx_E0 aa) l yX8_greatestSeverity cX8_greatestSeverity 3 (some .int) 7 112 [.ref (ad 0), .int p1, .int p2] (kW aa ad t σ rs) (kW aa ad t q.2 rs) (gx_en q.1) := by
  refine gx_intro_x (by decide) (Nat.le_of_ble_eq_true rfl) (fun J gx => ?_)
  have g := gx.g
  unfold xX8_greatestSeverity at hf
  show J 0 0 (kW aa ad t σ rs) 0 [(0, .ref (ad 0)), (1, .int p1), (2, .int p2)] []
  refine j_aload_n (pc := 0) g 0 dX8_greatestSeverity_0 rfl ?_
  refine j_iload_n (pc := 1) g 1 dX8_greatestSeverity_1 rfl ?_
  rcases gx_ors hf with ⟨r2, h_2, hf⟩ | ⟨-, hf⟩
  · refine cK_X8_X8_requireOfficer_0 (σ := σ) (pc := 2) g (cX8_requireOfficer_ h_2) ⟨Nat.le_of_ble_eq_true rfl, Nat.le_of_ble_eq_true rfl⟩ ⟨Nat.zero_le _, Nat.zero_le _⟩ (Nat.le_of_ble_eq_true rfl) dX8_greatestSeverity_2 ?_
    refine j_aload_n (pc := 5) g 0 dX8_greatestSeverity_5 rfl ?_
    refine j_iload_n (pc := 6) g 2 dX8_greatestSeverity_6 rfl ?_
    rcases gx_ors hf with ⟨r7, h_7, hf⟩ | ⟨-, hf⟩
    · refine cK_X8_X8_requireOfficer_0 (σ := r2) (pc := 7) g (cX8_requireOfficer_ h_7) ⟨Nat.le_of_ble_eq_true rfl, Nat.le_of_ble_eq_true rfl⟩ ⟨Nat.zero_le _, Nat.zero_le _⟩ (Nat.le_of_ble_eq_true rfl) dX8_greatestSeverity_7 ?_
      refine j_aload_n (pc := 10) g 0 dX8_greatestSeverity_10 rfl ?_
      refine j_iload_n (pc := 11) g 1 dX8_greatestSeverity_11 rfl ?_
      refine j_iload_n (pc := 12) g 2 dX8_greatestSeverity_12 rfl ?_
      rcases gx_ors hf with ⟨r13, h_13, hf⟩ | ⟨-, hf⟩
      · refine cK_X8_X8_requireWay_0 (σ := r7) (pc := 13) g (cX8_requireWay_ h_13) ⟨Nat.le_of_ble_eq_true rfl, Nat.le_of_ble_eq_true rfl⟩ ⟨Nat.zero_le _, Nat.zero_le _⟩ (Nat.le_of_ble_eq_true rfl) dX8_greatestSeverity_13 ?_
        refine j_aload_n (pc := 16) g 0 dX8_greatestSeverity_16 rfl ?_
        refine gK_X8_0_0 (σ := r13) (pc := 17) g dX8_greatestSeverity_17 ?_
        refine gK_X8_1_0 (σ := r13) (pc := 20) g dX8_greatestSeverity_20 ?_
        refine j_iload_n (pc := 23) g 1 dX8_greatestSeverity_23 rfl ?_
        refine j_iload_n (pc := 24) g 2 dX8_greatestSeverity_24 rfl ?_
        obtain ⟨r25, h_25, hf⟩ := gx_bs hf
        refine cK_X8_X3_leastLoyalty_2 (σ := r13) (pc := 25) g (cX3_leastLoyalty_ (ad := (fun p => ad (p + 2))) h_25) ⟨Nat.le_of_ble_eq_true rfl, Nat.le_of_ble_eq_true rfl⟩ ⟨Nat.zero_le _, Nat.zero_le _⟩ (Nat.le_of_ble_eq_true rfl) dX8_greatestSeverity_25 ?_
        cases hf
      · exact j_callVX (pc := 13) (na := 2) (As := [.int p1, .int p2]) (rest := []) (q0 := 0) (ci := 9) gx (eX8_requireWay_ hf) q_i_X8_requireWay q_s_X8_requireWay rfl rfl rfl q_c_X8_requireWay q_l_X8_165 q_n_X8 (by decide +kernel) rfl ⟨Nat.le_of_ble_eq_true rfl, Nat.le_of_ble_eq_true rfl⟩ (Nat.le_of_ble_eq_true rfl) (.refl _) (.refl _) dX8_greatestSeverity_13 rfl
    · exact j_callVX (pc := 7) (na := 1) (As := [.int p2]) (rest := []) (q0 := 0) (ci := 9) gx (eX8_requireOfficer_ hf) q_i_X8_requireOfficer q_s_X8_requireOfficer rfl rfl rfl q_c_X8_requireOfficer q_l_X8_114 q_n_X8 (by decide +kernel) rfl ⟨Nat.le_of_ble_eq_true rfl, Nat.le_of_ble_eq_true rfl⟩ (Nat.le_of_ble_eq_true rfl) (.refl _) (.refl _) dX8_greatestSeverity_7 rfl
  · exact j_callVX (pc := 2) (na := 1) (As := [.int p1]) (rest := []) (q0 := 0) (ci := 9) gx (eX8_requireOfficer_ hf) q_i_X8_requireOfficer q_s_X8_requireOfficer rfl rfl rfl q_c_X8_requireOfficer q_l_X8_114 q_n_X8 (by decide +kernel) rfl ⟨Nat.le_of_ble_eq_true rfl, Nat.le_of_ble_eq_true rfl⟩ (Nat.le_of_ble_eq_true rfl) (.refl _) (.refl _) dX8_greatestSeverity_2 rfl

set_option maxRecDepth 100000 in
set_option maxHeartbeats 4000000 in
theorem eX8_greatestSeverityByTrial_ {D : va_G} {t : Nat → ClassId} {aa : gx_AA} {l : Launch} {ad : Nat → Nat} {rs : va_W} {σ : CS} {p1 : Int32} {p2 : Int32} {q : (Nat × CS)} (hf : xX8_greatestSeverityByTrial σ p1 p2 = some q) : gx_CX D t (gx_E0 aa) l yX8_greatestSeverityByTrial cX8_greatestSeverityByTrial 4 (some .int) 7 112 [.ref (ad 0), .int p1, .int p2] (kW aa ad t σ rs) (kW aa ad t q.2 rs) (gx_en q.1) := by
  refine gx_intro_x (by decide) (Nat.le_of_ble_eq_true rfl) (fun J gx => ?_)
  have g := gx.g
  unfold xX8_greatestSeverityByTrial at hf
  show J 0 0 (kW aa ad t σ rs) 0 [(0, .ref (ad 0)), (1, .int p1), (2, .int p2)] []
  refine j_aload_n (pc := 0) g 0 dX8_greatestSeverityByTrial_0 rfl ?_
  refine j_iload_n (pc := 1) g 1 dX8_greatestSeverityByTrial_1 rfl ?_
  rcases gx_ors hf with ⟨r2, h_2, hf⟩ | ⟨-, hf⟩
  · refine cK_X8_X8_requireOfficer_0 (σ := σ) (pc := 2) g (cX8_requireOfficer_ h_2) ⟨Nat.le_of_ble_eq_true rfl, Nat.le_of_ble_eq_true rfl⟩ ⟨Nat.zero_le _, Nat.zero_le _⟩ (Nat.le_of_ble_eq_true rfl) dX8_greatestSeverityByTrial_2 ?_
    refine j_aload_n (pc := 5) g 0 dX8_greatestSeverityByTrial_5 rfl ?_
    refine j_iload_n (pc := 6) g 2 dX8_greatestSeverityByTrial_6 rfl ?_
    rcases gx_ors hf with ⟨r7, h_7, hf⟩ | ⟨-, hf⟩
    · refine cK_X8_X8_requireOfficer_0 (σ := r2) (pc := 7) g (cX8_requireOfficer_ h_7) ⟨Nat.le_of_ble_eq_true rfl, Nat.le_of_ble_eq_true rfl⟩ ⟨Nat.zero_le _, Nat.zero_le _⟩ (Nat.le_of_ble_eq_true rfl) dX8_greatestSeverityByTrial_7 ?_
      refine j_aload_n (pc := 10) g 0 dX8_greatestSeverityByTrial_10 rfl ?_
      refine j_iload_n (pc := 11) g 1 dX8_greatestSeverityByTrial_11 rfl ?_
      refine j_iload_n (pc := 12) g 2 dX8_greatestSeverityByTrial_12 rfl ?_
      rcases gx_ors hf with ⟨r13, h_13, hf⟩ | ⟨-, hf⟩
      · refine cK_X8_X8_requireWay_0 (σ := r7) (pc := 13) g (cX8_requireWay_ h_13) ⟨Nat.le_of_ble_eq_true rfl, Nat.le_of_ble_eq_true rfl⟩ ⟨Nat.zero_le _, Nat.zero_le _⟩ (Nat.le_of_ble_eq_true rfl) dX8_greatestSeverityByTrial_13 ?_
        refine j_bipush (v := 100) (pc := 16) g dX8_greatestSeverityByTrial_16 (by decide) ?_
        refine j_istore_n (L' := [(3, .int (100 : Int32)), (0, .ref (ad 0)), (1, .int p1), (2, .int p2)]) (pc := 18) g dX8_greatestSeverityByTrial_18 rfl (Nat.le_of_ble_eq_true rfl) rfl ?_
        cases hf
      · exact j_callVX (pc := 13) (na := 2) (As := [.int p1, .int p2]) (rest := []) (q0 := 0) (ci := 9) gx (eX8_requireWay_ hf) q_i_X8_requireWay q_s_X8_requireWay rfl rfl rfl q_c_X8_requireWay q_l_X8_165 q_n_X8 (by decide +kernel) rfl ⟨Nat.le_of_ble_eq_true rfl, Nat.le_of_ble_eq_true rfl⟩ (Nat.le_of_ble_eq_true rfl) (.refl _) (.refl _) dX8_greatestSeverityByTrial_13 rfl
    · exact j_callVX (pc := 7) (na := 1) (As := [.int p2]) (rest := []) (q0 := 0) (ci := 9) gx (eX8_requireOfficer_ hf) q_i_X8_requireOfficer q_s_X8_requireOfficer rfl rfl rfl q_c_X8_requireOfficer q_l_X8_114 q_n_X8 (by decide +kernel) rfl ⟨Nat.le_of_ble_eq_true rfl, Nat.le_of_ble_eq_true rfl⟩ (Nat.le_of_ble_eq_true rfl) (.refl _) (.refl _) dX8_greatestSeverityByTrial_7 rfl
  · exact j_callVX (pc := 2) (na := 1) (As := [.int p1]) (rest := []) (q0 := 0) (ci := 9) gx (eX8_requireOfficer_ hf) q_i_X8_requireOfficer q_s_X8_requireOfficer rfl rfl rfl q_c_X8_requireOfficer q_l_X8_114 q_n_X8 (by decide +kernel) rfl ⟨Nat.le_of_ble_eq_true rfl, Nat.le_of_ble_eq_true rfl⟩ (Nat.le_of_ble_eq_true rfl) (.refl _) (.refl _) dX8_greatestSeverityByTrial_2 rfl

set_option maxRecDepth 100000 in
set_option maxHeartbeats 4000000 in
theorem eX8_firstRefusal_ {D : va_G} {t : Nat → ClassId} {aa : gx_AA} {l : Launch} {ad : Nat → Nat} {rs : va_W} {σ : CS} {p1 : Int32} {p2 : Int32} {p3 : Int32} {q : (Nat × CS)} (hf : xX8_firstRefusal σ p1 p2 p3 = some q) : gx_CX D t (gx_E0 aa) l yX8_firstRefusal cX8_firstRefusal 5 (some .int) 7 112 [.ref (ad 0), .int p1, .int p2, .int p3] (kW aa ad t σ rs) (kW aa ad t q.2 rs) (gx_en q.1) := by
  refine gx_intro_x (by decide) (Nat.le_of_ble_eq_true rfl) (fun J gx => ?_)
  have g := gx.g
  unfold xX8_firstRefusal at hf
  show J 0 0 (kW aa ad t σ rs) 0 [(0, .ref (ad 0)), (1, .int p1), (2, .int p2), (3, .int p3)] []
  refine j_aload_n (pc := 0) g 0 dX8_firstRefusal_0 rfl ?_
  refine j_iload_n (pc := 1) g 1 dX8_firstRefusal_1 rfl ?_
  rcases gx_ors hf with ⟨r2, h_2, hf⟩ | ⟨-, hf⟩
  · refine cK_X8_X8_requireOfficer_0 (σ := σ) (pc := 2) g (cX8_requireOfficer_ h_2) ⟨Nat.le_of_ble_eq_true rfl, Nat.le_of_ble_eq_true rfl⟩ ⟨Nat.zero_le _, Nat.zero_le _⟩ (Nat.le_of_ble_eq_true rfl) dX8_firstRefusal_2 ?_
    refine j_aload_n (pc := 5) g 0 dX8_firstRefusal_5 rfl ?_
    refine j_iload_n (pc := 6) g 2 dX8_firstRefusal_6 rfl ?_
    rcases gx_ors hf with ⟨r7, h_7, hf⟩ | ⟨-, hf⟩
    · refine cK_X8_X8_requireOfficer_0 (σ := r2) (pc := 7) g (cX8_requireOfficer_ h_7) ⟨Nat.le_of_ble_eq_true rfl, Nat.le_of_ble_eq_true rfl⟩ ⟨Nat.zero_le _, Nat.zero_le _⟩ (Nat.le_of_ble_eq_true rfl) dX8_firstRefusal_7 ?_
      refine j_iload_n (pc := 10) g 3 dX8_firstRefusal_10 rfl ?_
      refine j_if_lt (tgt := 20) (pc := 11) g dX8_firstRefusal_11 (by decide) (fun c_11 => ?_) (fun c_11 => ?_)
      · have hf := gx_it c_11 hf
        cases hf
        exact j_throw (E0 := "java/lang/IllegalArgumentException") (is := 177) (text := "the severity is out of range") (pc := 20) gx (by decide +kernel) (by decide +kernel) q_k_X8_175 q_n_ex2 at_179 ag_179 ⟨Nat.le_of_ble_eq_true rfl, Nat.le_of_ble_eq_true rfl⟩ (Nat.le_of_ble_eq_true rfl) dX8_firstRefusal_20 dX8_firstRefusal_23 dX8_firstRefusal_24 dX8_firstRefusal_26 dX8_firstRefusal_29
      · have hf := gx_if c_11 hf
        refine j_iload_n (pc := 14) g 3 dX8_firstRefusal_14 rfl ?_
        refine j_bipush (v := 100) (pc := 15) g dX8_firstRefusal_15 (by decide) ?_
        refine j_icmp_le (tgt := 30) (pc := 17) g dX8_firstRefusal_17 (by decide) (fun c_17 => ?_) (fun c_17 => ?_)
        · have hf := gx_it c_17 hf
          refine j_aload_n (pc := 30) g 0 dX8_firstRefusal_30 rfl ?_
          refine j_iload_n (pc := 31) g 1 dX8_firstRefusal_31 rfl ?_
          refine j_iload_n (pc := 32) g 2 dX8_firstRefusal_32 rfl ?_
          rcases gx_ors hf with ⟨r33, h_33, hf⟩ | ⟨-, hf⟩
          · refine cK_X8_X8_requireWay_0 (σ := r7) (pc := 33) g (cX8_requireWay_ h_33) ⟨Nat.le_of_ble_eq_true rfl, Nat.le_of_ble_eq_true rfl⟩ ⟨Nat.zero_le _, Nat.zero_le _⟩ (Nat.le_of_ble_eq_true rfl) dX8_firstRefusal_33 ?_
            refine j_aload_n (pc := 36) g 0 dX8_firstRefusal_36 rfl ?_
            refine gK_X8_0_0 (σ := r33) (pc := 37) g dX8_firstRefusal_37 ?_
            refine gK_X8_1_0 (σ := r33) (pc := 40) g dX8_firstRefusal_40 ?_
            refine j_iload_n (pc := 43) g 1 dX8_firstRefusal_43 rfl ?_
            refine j_iload_n (pc := 44) g 2 dX8_firstRefusal_44 rfl ?_
            refine j_iload_n (pc := 45) g 3 dX8_firstRefusal_45 rfl ?_
            obtain ⟨r46, h_46, hf⟩ := gx_bs hf
            refine cK_X8_X3_firstRefuser_2 (σ := r33) (pc := 46) g (cX3_firstRefuser_ (ad := (fun p => ad (p + 2))) h_46) ⟨Nat.le_of_ble_eq_true rfl, Nat.le_of_ble_eq_true rfl⟩ ⟨Nat.zero_le _, Nat.zero_le _⟩ (Nat.le_of_ble_eq_true rfl) dX8_firstRefusal_46 ?_
            refine j_istore (L' := [(4, .int r46), (0, .ref (ad 0)), (1, .int p1), (2, .int p2), (3, .int p3)]) (pc := 49) g dX8_firstRefusal_49 (Nat.le_of_ble_eq_true rfl) rfl ?_
            refine j_iload (pc := 51) g 0 dX8_firstRefusal_51 rfl ?_
            refine j_iconst (v := -1) (pc := 53) g dX8_firstRefusal_53 (by decide) ?_
            refine j_icmp_ne (tgt := 67) (pc := 54) g dX8_firstRefusal_54 (by decide) (fun c_54 => ?_) (fun c_54 => ?_)
            · have hf := gx_if c_54 hf
              refine j_iload (pc := 67) g 0 dX8_firstRefusal_67 rfl ?_
              cases hf
            · have hf := gx_it c_54 hf
              cases hf
              exact j_throwN (is := 180) (text := "nobody would refuse the order") (pc := 57) gx rfl (by decide +kernel) q_k_X8_128 q_n_ex5 at_132 ag_132 ⟨Nat.le_of_ble_eq_true rfl, Nat.le_of_ble_eq_true rfl⟩ (Nat.le_of_ble_eq_true rfl) dX8_firstRefusal_57 dX8_firstRefusal_60 (Or.inl ⟨dX8_firstRefusal_61, rfl⟩) dX8_firstRefusal_63 dX8_firstRefusal_66
          · exact j_callVX (pc := 33) (na := 2) (As := [.int p1, .int p2]) (rest := []) (q0 := 0) (ci := 9) gx (eX8_requireWay_ hf) q_i_X8_requireWay q_s_X8_requireWay rfl rfl rfl q_c_X8_requireWay q_l_X8_165 q_n_X8 (by decide +kernel) rfl ⟨Nat.le_of_ble_eq_true rfl, Nat.le_of_ble_eq_true rfl⟩ (Nat.le_of_ble_eq_true rfl) (.refl _) (.refl _) dX8_firstRefusal_33 rfl
        · have hf := gx_if c_17 hf
          cases hf
          exact j_throw (E0 := "java/lang/IllegalArgumentException") (is := 177) (text := "the severity is out of range") (pc := 20) gx (by decide +kernel) (by decide +kernel) q_k_X8_175 q_n_ex2 at_179 ag_179 ⟨Nat.le_of_ble_eq_true rfl, Nat.le_of_ble_eq_true rfl⟩ (Nat.le_of_ble_eq_true rfl) dX8_firstRefusal_20 dX8_firstRefusal_23 dX8_firstRefusal_24 dX8_firstRefusal_26 dX8_firstRefusal_29
    · exact j_callVX (pc := 7) (na := 1) (As := [.int p2]) (rest := []) (q0 := 0) (ci := 9) gx (eX8_requireOfficer_ hf) q_i_X8_requireOfficer q_s_X8_requireOfficer rfl rfl rfl q_c_X8_requireOfficer q_l_X8_114 q_n_X8 (by decide +kernel) rfl ⟨Nat.le_of_ble_eq_true rfl, Nat.le_of_ble_eq_true rfl⟩ (Nat.le_of_ble_eq_true rfl) (.refl _) (.refl _) dX8_firstRefusal_7 rfl
  · exact j_callVX (pc := 2) (na := 1) (As := [.int p1]) (rest := []) (q0 := 0) (ci := 9) gx (eX8_requireOfficer_ hf) q_i_X8_requireOfficer q_s_X8_requireOfficer rfl rfl rfl q_c_X8_requireOfficer q_l_X8_114 q_n_X8 (by decide +kernel) rfl ⟨Nat.le_of_ble_eq_true rfl, Nat.le_of_ble_eq_true rfl⟩ (Nat.le_of_ble_eq_true rfl) (.refl _) (.refl _) dX8_firstRefusal_2 rfl

set_option maxRecDepth 100000 in
set_option maxHeartbeats 4000000 in
theorem eX8_holder_ {D : va_G} {t : Nat → ClassId} {aa : gx_AA} {l : Launch} {ad : Nat → Nat} {rs : va_W} {σ : CS} {p1 : Int32} {q : (Nat × CS)} (hf : xX8_holder σ p1 = some q) : gx_CX D t (gx_E0 aa) l yX8_holder cX8_holder 2 (some .int) 7 111 [.ref (ad 0), .int p1] (kW aa ad t σ rs) (kW aa ad t q.2 rs) (gx_en q.1) := by
  refine gx_intro_x (by decide) (Nat.le_of_ble_eq_true rfl) (fun J gx => ?_)
  have g := gx.g
  unfold xX8_holder at hf
  show J 0 0 (kW aa ad t σ rs) 0 [(0, .ref (ad 0)), (1, .int p1)] []
  refine j_aload_n (pc := 0) g 0 dX8_holder_0 rfl ?_
  refine j_iload_n (pc := 1) g 1 dX8_holder_1 rfl ?_
  rcases gx_ors hf with ⟨r2, h_2, hf⟩ | ⟨-, hf⟩
  · refine cK_X8_X8_requireOrder_0 (σ := σ) (pc := 2) g (cX8_requireOrder_ h_2) ⟨Nat.le_of_ble_eq_true rfl, Nat.le_of_ble_eq_true rfl⟩ ⟨Nat.zero_le _, Nat.zero_le _⟩ (Nat.le_of_ble_eq_true rfl) dX8_holder_2 ?_
    refine j_aload_n (pc := 5) g 0 dX8_holder_5 rfl ?_
    refine gK_X8_0_0 (σ := r2) (pc := 6) g dX8_holder_6 ?_
    refine gK_X8_1_1 (σ := r2) (pc := 9) g dX8_holder_9 ?_
    refine gK_X8_3_0 (σ := r2) (pc := 12) g dX8_holder_12 ?_
    refine j_iload_n (pc := 15) g 1 dX8_holder_15 rfl ?_
    obtain ⟨h_16, hf⟩ := gx_ck hf
    refine lK_X8_3_0 (σ := r2) (pc := 16) g h_16 dX8_holder_16 ?_
    cases hf
  · exact j_callVX (pc := 2) (na := 1) (As := [.int p1]) (rest := []) (q0 := 0) (ci := 9) gx (eX8_requireOrder_ hf) q_i_X8_requireOrder q_s_X8_requireOrder rfl rfl rfl q_c_X8_requireOrder q_l_X8_191 q_n_X8 (by decide +kernel) rfl ⟨Nat.le_of_ble_eq_true rfl, Nat.le_of_ble_eq_true rfl⟩ (Nat.le_of_ble_eq_true rfl) (.refl _) (.refl _) dX8_holder_2 rfl

set_option maxRecDepth 100000 in
set_option maxHeartbeats 4000000 in
theorem eX8_target_ {D : va_G} {t : Nat → ClassId} {aa : gx_AA} {l : Launch} {ad : Nat → Nat} {rs : va_W} {σ : CS} {p1 : Int32} {q : (Nat × CS)} (hf : xX8_target σ p1 = some q) : gx_CX D t (gx_E0 aa) l yX8_target cX8_target 2 (some .int) 7 111 [.ref (ad 0), .int p1] (kW aa ad t σ rs) (kW aa ad t q.2 rs) (gx_en q.1) := by
  refine gx_intro_x (by decide) (Nat.le_of_ble_eq_true rfl) (fun J gx => ?_)
  have g := gx.g
  unfold xX8_target at hf
  show J 0 0 (kW aa ad t σ rs) 0 [(0, .ref (ad 0)), (1, .int p1)] []
  refine j_aload_n (pc := 0) g 0 dX8_target_0 rfl ?_
  refine j_iload_n (pc := 1) g 1 dX8_target_1 rfl ?_
  rcases gx_ors hf with ⟨r2, h_2, hf⟩ | ⟨-, hf⟩
  · refine cK_X8_X8_requireOrder_0 (σ := σ) (pc := 2) g (cX8_requireOrder_ h_2) ⟨Nat.le_of_ble_eq_true rfl, Nat.le_of_ble_eq_true rfl⟩ ⟨Nat.zero_le _, Nat.zero_le _⟩ (Nat.le_of_ble_eq_true rfl) dX8_target_2 ?_
    refine j_aload_n (pc := 5) g 0 dX8_target_5 rfl ?_
    refine gK_X8_0_0 (σ := r2) (pc := 6) g dX8_target_6 ?_
    refine gK_X8_1_1 (σ := r2) (pc := 9) g dX8_target_9 ?_
    refine gK_X8_3_1 (σ := r2) (pc := 12) g dX8_target_12 ?_
    refine j_iload_n (pc := 15) g 1 dX8_target_15 rfl ?_
    obtain ⟨h_16, hf⟩ := gx_ck hf
    refine lK_X8_3_1 (σ := r2) (pc := 16) g h_16 dX8_target_16 ?_
    cases hf
  · exact j_callVX (pc := 2) (na := 1) (As := [.int p1]) (rest := []) (q0 := 0) (ci := 9) gx (eX8_requireOrder_ hf) q_i_X8_requireOrder q_s_X8_requireOrder rfl rfl rfl q_c_X8_requireOrder q_l_X8_191 q_n_X8 (by decide +kernel) rfl ⟨Nat.le_of_ble_eq_true rfl, Nat.le_of_ble_eq_true rfl⟩ (Nat.le_of_ble_eq_true rfl) (.refl _) (.refl _) dX8_target_2 rfl

set_option maxRecDepth 100000 in
set_option maxHeartbeats 4000000 in
theorem eX8_severity_ {D : va_G} {t : Nat → ClassId} {aa : gx_AA} {l : Launch} {ad : Nat → Nat} {rs : va_W} {σ : CS} {p1 : Int32} {q : (Nat × CS)} (hf : xX8_severity σ p1 = some q) : gx_CX D t (gx_E0 aa) l yX8_severity cX8_severity 2 (some .int) 7 111 [.ref (ad 0), .int p1] (kW aa ad t σ rs) (kW aa ad t q.2 rs) (gx_en q.1) := by
  refine gx_intro_x (by decide) (Nat.le_of_ble_eq_true rfl) (fun J gx => ?_)
  have g := gx.g
  unfold xX8_severity at hf
  show J 0 0 (kW aa ad t σ rs) 0 [(0, .ref (ad 0)), (1, .int p1)] []
  refine j_aload_n (pc := 0) g 0 dX8_severity_0 rfl ?_
  refine j_iload_n (pc := 1) g 1 dX8_severity_1 rfl ?_
  rcases gx_ors hf with ⟨r2, h_2, hf⟩ | ⟨-, hf⟩
  · refine cK_X8_X8_requireOrder_0 (σ := σ) (pc := 2) g (cX8_requireOrder_ h_2) ⟨Nat.le_of_ble_eq_true rfl, Nat.le_of_ble_eq_true rfl⟩ ⟨Nat.zero_le _, Nat.zero_le _⟩ (Nat.le_of_ble_eq_true rfl) dX8_severity_2 ?_
    refine j_aload_n (pc := 5) g 0 dX8_severity_5 rfl ?_
    refine gK_X8_0_0 (σ := r2) (pc := 6) g dX8_severity_6 ?_
    refine gK_X8_1_1 (σ := r2) (pc := 9) g dX8_severity_9 ?_
    refine gK_X8_3_2 (σ := r2) (pc := 12) g dX8_severity_12 ?_
    refine j_iload_n (pc := 15) g 1 dX8_severity_15 rfl ?_
    obtain ⟨h_16, hf⟩ := gx_ck hf
    refine lK_X8_3_2 (σ := r2) (pc := 16) g h_16 dX8_severity_16 ?_
    cases hf
  · exact j_callVX (pc := 2) (na := 1) (As := [.int p1]) (rest := []) (q0 := 0) (ci := 9) gx (eX8_requireOrder_ hf) q_i_X8_requireOrder q_s_X8_requireOrder rfl rfl rfl q_c_X8_requireOrder q_l_X8_191 q_n_X8 (by decide +kernel) rfl ⟨Nat.le_of_ble_eq_true rfl, Nat.le_of_ble_eq_true rfl⟩ (Nat.le_of_ble_eq_true rfl) (.refl _) (.refl _) dX8_severity_2 rfl

set_option maxRecDepth 100000 in
set_option maxHeartbeats 4000000 in
theorem eX8_meaning_ {D : va_G} {t : Nat → ClassId} {aa : gx_AA} {l : Launch} {ad : Nat → Nat} {rs : va_W} {σ : CS} {p1 : Int32} {p2 : Int32} {q : (Nat × CS)} (hf : xX8_meaning σ p1 p2 = some q) : gx_CX D t (gx_E0 aa) l yX8_meaning cX8_meaning 4 (some .int) 7 110 [.ref (ad 0), .int p1, .int p2] (kW aa ad t σ rs) (kW aa ad t q.2 rs) (gx_en q.1) := by
  refine gx_intro_x (by decide) (Nat.le_of_ble_eq_true rfl) (fun J gx => ?_)
  have g := gx.g
  unfold xX8_meaning at hf
  show J 0 0 (kW aa ad t σ rs) 0 [(0, .ref (ad 0)), (1, .int p1), (2, .int p2)] []
  refine j_aload_n (pc := 0) g 0 dX8_meaning_0 rfl ?_
  refine gK_X8_0_0 (σ := σ) (pc := 1) g dX8_meaning_1 ?_
  refine gK_X8_1_2 (σ := σ) (pc := 4) g dX8_meaning_4 ?_
  refine j_iload_n (pc := 7) g 1 dX8_meaning_7 rfl ?_
  refine j_iload_n (pc := 8) g 2 dX8_meaning_8 rfl ?_
  obtain ⟨r9, h_9, hf⟩ := gx_bs hf
  refine cK_X8_X0_lookUp_4 (σ := σ) (pc := 9) g (cX0_lookUp_ (ad := (fun p => ad (p + 12))) h_9) ⟨Nat.le_of_ble_eq_true rfl, Nat.le_of_ble_eq_true rfl⟩ ⟨Nat.zero_le _, Nat.zero_le _⟩ (Nat.le_of_ble_eq_true rfl) dX8_meaning_9 ?_
  refine j_istore_n (L' := [(3, .int r9), (0, .ref (ad 0)), (1, .int p1), (2, .int p2)]) (pc := 12) g dX8_meaning_12 rfl (Nat.le_of_ble_eq_true rfl) rfl ?_
  refine j_iload_n (pc := 13) g 0 dX8_meaning_13 rfl ?_
  refine j_if_ge (tgt := 21) (pc := 14) g dX8_meaning_14 (by decide) (fun c_14 => ?_) (fun c_14 => ?_)
  · have hf := gx_it c_14 hf
    refine j_iload_n (pc := 21) g 0 dX8_meaning_21 rfl ?_
    cases hf
  · have hf := gx_if c_14 hf
    refine j_iload_n (pc := 17) g 0 dX8_meaning_17 rfl ?_
    obtain ⟨e9, h9, hf⟩ := gx_bs hf
    cases hf
    exact j_callSX (pc := 18) (na := 1) (As := [.int r9]) (rest := []) gx (eX8_throwFor_ (ad := ad) h9) q_t_X8_throwFor q_c_X8_throwFor q_l_X8_216 q_n_X8 (by decide +kernel) rfl ⟨Nat.le_of_ble_eq_true rfl, Nat.le_of_ble_eq_true rfl⟩ (Nat.le_of_ble_eq_true rfl) (.refl _) (.refl _) dX8_meaning_18 rfl

set_option maxRecDepth 100000 in
set_option maxHeartbeats 4000000 in
theorem eX8_writeCommand_ {D : va_G} {t : Nat → ClassId} {aa : gx_AA} {l : Launch} {ad : Nat → Nat} {rs : va_W} {σ : CS} {p1 : Int32} {q : (Nat × CS)} (hf : xX8_writeCommand σ p1 = some q) : gx_CX D t (gx_E0 aa) l yX8_writeCommand cX8_writeCommand 2 (some .int) 19 467 [.ref (ad 0), .int p1] (kW aa ad t σ rs) (kW aa ad t q.2 rs) (gx_en q.1) := by
  refine gx_intro_x (by decide) (Nat.le_of_ble_eq_true rfl) (fun J gx => ?_)
  have g := gx.g
  unfold xX8_writeCommand at hf
  show J 0 0 (kW aa ad t σ rs) 0 [(0, .ref (ad 0)), (1, .int p1)] []
  refine j_aload_n (pc := 0) g 0 dX8_writeCommand_0 rfl ?_
  refine j_iload_n (pc := 1) g 1 dX8_writeCommand_1 rfl ?_
  rcases gx_ors hf with ⟨r2, h_2, hf⟩ | ⟨-, hf⟩
  · refine cK_X8_X8_requireOfficer_0 (σ := σ) (pc := 2) g (cX8_requireOfficer_ h_2) ⟨Nat.le_of_ble_eq_true rfl, Nat.le_of_ble_eq_true rfl⟩ ⟨Nat.zero_le _, Nat.zero_le _⟩ (Nat.le_of_ble_eq_true rfl) dX8_writeCommand_2 ?_
    refine j_aload_n (pc := 5) g 0 dX8_writeCommand_5 rfl ?_
    refine gK_X8_0_5 (σ := r2) (pc := 6) g dX8_writeCommand_6 ?_
    obtain ⟨r9, h_9, hf⟩ := gx_bs hf
    refine cK_X8_X6_clear_15 (σ := r2) (pc := 9) g (cX6_clear_ (ad := (fun p => ad (p + 46))) h_9) ⟨Nat.le_of_ble_eq_true rfl, Nat.le_of_ble_eq_true rfl⟩ ⟨Nat.zero_le _, Nat.zero_le _⟩ (Nat.le_of_ble_eq_true rfl) dX8_writeCommand_9 ?_
    refine j_aload_n (pc := 12) g 0 dX8_writeCommand_12 rfl ?_
    refine gK_X8_0_0 (σ := (r2.1, (r2.2.1, (r2.2.2.1, (r2.2.2.2.1, (r2.2.2.2.2.1, (r9, r2.2.2.2.2.2.2))))))) (pc := 13) g dX8_writeCommand_13 ?_
    refine gK_X8_1_0 (σ := (r2.1, (r2.2.1, (r2.2.2.1, (r2.2.2.2.1, (r2.2.2.2.2.1, (r9, r2.2.2.2.2.2.2))))))) (pc := 16) g dX8_writeCommand_16 ?_
    refine j_iload_n (pc := 19) g 1 dX8_writeCommand_19 rfl ?_
    refine j_iconst (v := 0) (pc := 20) g dX8_writeCommand_20 (by decide) ?_
    refine j_aload_n (pc := 21) g 0 dX8_writeCommand_21 rfl ?_
    refine gK_X8_0_5 (σ := (r2.1, (r2.2.1, (r2.2.2.1, (r2.2.2.2.1, (r2.2.2.2.2.1, (r9, r2.2.2.2.2.2.2))))))) (pc := 22) g dX8_writeCommand_22 ?_
    obtain ⟨r25, h_25, hf⟩ := gx_bs hf
    refine cK_X8_X3_write_2_15 (σ := (r2.1, (r2.2.1, (r2.2.2.1, (r2.2.2.2.1, (r2.2.2.2.2.1, (r9, r2.2.2.2.2.2.2))))))) (pc := 25) g (cX3_write_ (ad := (fun p => ad (p + 2))) (bd := (fun p => ad (p + 46))) 16 h_25) ⟨Nat.le_of_ble_eq_true rfl, Nat.le_of_ble_eq_true rfl⟩ ⟨Nat.zero_le _, Nat.zero_le _⟩ (Nat.le_of_ble_eq_true rfl) dX8_writeCommand_25 ?_
    refine j_aload_n (pc := 28) g 0 dX8_writeCommand_28 rfl ?_
    refine gK_X8_0_5 (σ := ((r2.1.1, (r25.1, r2.1.2.2)), (r2.2.1, (r2.2.2.1, (r2.2.2.2.1, (r2.2.2.2.2.1, (r25.2, r2.2.2.2.2.2.2))))))) (pc := 29) g dX8_writeCommand_29 ?_
    refine gK_X8_15_1 (σ := ((r2.1.1, (r25.1, r2.1.2.2)), (r2.2.1, (r2.2.2.1, (r2.2.2.2.1, (r2.2.2.2.2.1, (r25.2, r2.2.2.2.2.2.2))))))) (pc := 32) g dX8_writeCommand_32 ?_
    cases hf
  · exact j_callVX (pc := 2) (na := 1) (As := [.int p1]) (rest := []) (q0 := 0) (ci := 9) gx (eX8_requireOfficer_ hf) q_i_X8_requireOfficer q_s_X8_requireOfficer rfl rfl rfl q_c_X8_requireOfficer q_l_X8_114 q_n_X8 (by decide +kernel) rfl ⟨Nat.le_of_ble_eq_true rfl, Nat.le_of_ble_eq_true rfl⟩ (Nat.le_of_ble_eq_true rfl) (.refl _) (.refl _) dX8_writeCommand_2 rfl

set_option maxRecDepth 100000 in
set_option maxHeartbeats 4000000 in
theorem eX8_record_ {D : va_G} {t : Nat → ClassId} {aa : gx_AA} {l : Launch} {ad : Nat → Nat} {rs : va_W} {σ : CS} {p1 : Int32} {q : (Nat × CS)} (hf : xX8_record σ p1 = some q) : gx_CX D t (gx_E0 aa) l yX8_record cX8_record 2 (some .int) 7 110 [.ref (ad 0), .int p1] (kW aa ad t σ rs) (kW aa ad t q.2 rs) (gx_en q.1) := by
  refine gx_intro_x (by decide) (Nat.le_of_ble_eq_true rfl) (fun J gx => ?_)
  have g := gx.g
  unfold xX8_record at hf
  show J 0 0 (kW aa ad t σ rs) 0 [(0, .ref (ad 0)), (1, .int p1)] []
  refine j_iload_n (pc := 0) g 1 dX8_record_0 rfl ?_
  refine j_if_ge (tgt := 8) (pc := 1) g dX8_record_1 (by decide) (fun c_1 => ?_) (fun c_1 => ?_)
  · have hf := gx_it c_1 hf
    cases hf
  · have hf := gx_if c_1 hf
    refine j_iload_n (pc := 4) g 1 dX8_record_4 rfl ?_
    obtain ⟨e9, h9, hf⟩ := gx_bs hf
    cases hf
    exact j_callSX (pc := 5) (na := 1) (As := [.int p1]) (rest := []) gx (eX8_throwFor_ (ad := ad) h9) q_t_X8_throwFor q_c_X8_throwFor q_l_X8_216 q_n_X8 (by decide +kernel) rfl ⟨Nat.le_of_ble_eq_true rfl, Nat.le_of_ble_eq_true rfl⟩ (Nat.le_of_ble_eq_true rfl) (.refl _) (.refl _) dX8_record_5 rfl

set_option maxRecDepth 100000 in
set_option maxHeartbeats 4000000 in
theorem eX8_appoint_ {D : va_G} {t : Nat → ClassId} {aa : gx_AA} {l : Launch} {ad : Nat → Nat} {rs : va_W} {σ : CS} {p1 : Int32} {p2 : Int32} {p3 : Int32} {q : (Nat × CS)} (hf : xX8_appoint σ p1 p2 p3 = some q) : gx_CX D t (gx_E0 aa) l yX8_appoint cX8_appoint 4 (some .int) 8 131 [.ref (ad 0), .int p1, .int p2, .int p3] (kW aa ad t σ rs) (kW aa ad t q.2 rs) (gx_en q.1) := by
  refine gx_intro_x (by decide) (Nat.le_of_ble_eq_true rfl) (fun J gx => ?_)
  have g := gx.g
  unfold xX8_appoint at hf
  show J 0 0 (kW aa ad t σ rs) 0 [(0, .ref (ad 0)), (1, .int p1), (2, .int p2), (3, .int p3)] []
  refine j_aload_n (pc := 0) g 0 dX8_appoint_0 rfl ?_
  refine gK_X8_0_1 (σ := σ) (pc := 1) g dX8_appoint_1 ?_
  refine j_aload_n (pc := 4) g 0 dX8_appoint_4 rfl ?_
  refine gK_X8_0_0 (σ := σ) (pc := 5) g dX8_appoint_5 ?_
  obtain ⟨r8, h_8, hf⟩ := gx_bs hf
  refine cK_X8_X2_copyFrom_5_1 (σ := σ) (pc := 8) g (cX2_copyFrom_ (ad := (fun p => ad (p + 15))) (bd := (fun p => ad (p + 1))) h_8) ⟨Nat.le_of_ble_eq_true rfl, Nat.le_of_ble_eq_true rfl⟩ ⟨Nat.zero_le _, Nat.zero_le _⟩ (Nat.le_of_ble_eq_true rfl) dX8_appoint_8 ?_
  refine j_aload_n (pc := 11) g 0 dX8_appoint_11 rfl ?_
  refine j_aload_n (pc := 12) g 0 dX8_appoint_12 rfl ?_
  refine gK_X8_0_0 (σ := (r8.2, (r8.1, σ.2.2))) (pc := 13) g dX8_appoint_13 ?_
  refine j_iload_n (pc := 16) g 1 dX8_appoint_16 rfl ?_
  refine j_iload_n (pc := 17) g 2 dX8_appoint_17 rfl ?_
  refine j_iload_n (pc := 18) g 3 dX8_appoint_18 rfl ?_
  obtain ⟨r19, h_19, hf⟩ := gx_bs hf
  refine cK_X8_X2_enlist_1 (σ := (r8.2, (r8.1, σ.2.2))) (pc := 19) g (cX2_enlist_ (ad := (fun p => ad (p + 1))) h_19) ⟨Nat.le_of_ble_eq_true rfl, Nat.le_of_ble_eq_true rfl⟩ ⟨Nat.zero_le _, Nat.zero_le _⟩ (Nat.le_of_ble_eq_true rfl) dX8_appoint_19 ?_
  rcases gx_ors hf with ⟨r22, h_22, hf⟩ | ⟨-, hf⟩
  · refine cK_X8_X8_record_0 (σ := (r19.2, (r8.1, σ.2.2))) (pc := 22) g (cX8_record_ h_22) ⟨Nat.le_of_ble_eq_true rfl, Nat.le_of_ble_eq_true rfl⟩ ⟨Nat.zero_le _, Nat.zero_le _⟩ (Nat.le_of_ble_eq_true rfl) dX8_appoint_22 ?_
    cases hf
  · exact j_callVX (pc := 22) (na := 1) (As := [.int r19.1]) (rest := []) (q0 := 0) (ci := 9) gx (eX8_record_ hf) q_i_X8_record q_s_X8_record rfl rfl rfl q_c_X8_record q_l_X8_62 q_n_X8 (by decide +kernel) rfl ⟨Nat.le_of_ble_eq_true rfl, Nat.le_of_ble_eq_true rfl⟩ (Nat.le_of_ble_eq_true rfl) (.refl _) (.refl _) dX8_appoint_22 rfl

set_option maxRecDepth 100000 in
set_option maxHeartbeats 4000000 in
theorem eX8_promote_ {D : va_G} {t : Nat → ClassId} {aa : gx_AA} {l : Launch} {ad : Nat → Nat} {rs : va_W} {σ : CS} {p1 : Int32} {q : (Nat × CS)} (hf : xX8_promote σ p1 = some q) : gx_CX D t (gx_E0 aa) l yX8_promote cX8_promote 2 (some .int) 8 131 [.ref (ad 0), .int p1] (kW aa ad t σ rs) (kW aa ad t q.2 rs) (gx_en q.1) := by
  refine gx_intro_x (by decide) (Nat.le_of_ble_eq_true rfl) (fun J gx => ?_)
  have g := gx.g
  unfold xX8_promote at hf
  show J 0 0 (kW aa ad t σ rs) 0 [(0, .ref (ad 0)), (1, .int p1)] []
  refine j_aload_n (pc := 0) g 0 dX8_promote_0 rfl ?_
  refine gK_X8_0_1 (σ := σ) (pc := 1) g dX8_promote_1 ?_
  refine j_aload_n (pc := 4) g 0 dX8_promote_4 rfl ?_
  refine gK_X8_0_0 (σ := σ) (pc := 5) g dX8_promote_5 ?_
  obtain ⟨r8, h_8, hf⟩ := gx_bs hf
  refine cK_X8_X2_copyFrom_5_1 (σ := σ) (pc := 8) g (cX2_copyFrom_ (ad := (fun p => ad (p + 15))) (bd := (fun p => ad (p + 1))) h_8) ⟨Nat.le_of_ble_eq_true rfl, Nat.le_of_ble_eq_true rfl⟩ ⟨Nat.zero_le _, Nat.zero_le _⟩ (Nat.le_of_ble_eq_true rfl) dX8_promote_8 ?_
  refine j_aload_n (pc := 11) g 0 dX8_promote_11 rfl ?_
  refine j_aload_n (pc := 12) g 0 dX8_promote_12 rfl ?_
  refine gK_X8_0_0 (σ := (r8.2, (r8.1, σ.2.2))) (pc := 13) g dX8_promote_13 ?_
  refine j_iload_n (pc := 16) g 1 dX8_promote_16 rfl ?_
  obtain ⟨r17, h_17, hf⟩ := gx_bs hf
  refine cK_X8_X2_raiseRank_1 (σ := (r8.2, (r8.1, σ.2.2))) (pc := 17) g (cX2_raiseRank_ (ad := (fun p => ad (p + 1))) h_17) ⟨Nat.le_of_ble_eq_true rfl, Nat.le_of_ble_eq_true rfl⟩ ⟨Nat.zero_le _, Nat.zero_le _⟩ (Nat.le_of_ble_eq_true rfl) dX8_promote_17 ?_
  rcases gx_ors hf with ⟨r20, h_20, hf⟩ | ⟨-, hf⟩
  · refine cK_X8_X8_record_0 (σ := (r17.2, (r8.1, σ.2.2))) (pc := 20) g (cX8_record_ h_20) ⟨Nat.le_of_ble_eq_true rfl, Nat.le_of_ble_eq_true rfl⟩ ⟨Nat.zero_le _, Nat.zero_le _⟩ (Nat.le_of_ble_eq_true rfl) dX8_promote_20 ?_
    cases hf
  · exact j_callVX (pc := 20) (na := 1) (As := [.int r17.1]) (rest := []) (q0 := 0) (ci := 9) gx (eX8_record_ hf) q_i_X8_record q_s_X8_record rfl rfl rfl q_c_X8_record q_l_X8_62 q_n_X8 (by decide +kernel) rfl ⟨Nat.le_of_ble_eq_true rfl, Nat.le_of_ble_eq_true rfl⟩ (Nat.le_of_ble_eq_true rfl) (.refl _) (.refl _) dX8_promote_20 rfl

set_option maxRecDepth 100000 in
set_option maxHeartbeats 4000000 in
theorem eX8_transfer_ {D : va_G} {t : Nat → ClassId} {aa : gx_AA} {l : Launch} {ad : Nat → Nat} {rs : va_W} {σ : CS} {p1 : Int32} {p2 : Int32} {q : (Nat × CS)} (hf : xX8_transfer σ p1 p2 = some q) : gx_CX D t (gx_E0 aa) l yX8_transfer cX8_transfer 3 (some .int) 18 430 [.ref (ad 0), .int p1, .int p2] (kW aa ad t σ rs) (kW aa ad t q.2 rs) (gx_en q.1) := by
  refine gx_intro_x (by decide) (Nat.le_of_ble_eq_true rfl) (fun J gx => ?_)
  have g := gx.g
  unfold xX8_transfer at hf
  show J 0 0 (kW aa ad t σ rs) 0 [(0, .ref (ad 0)), (1, .int p1), (2, .int p2)] []
  refine j_aload_n (pc := 0) g 0 dX8_transfer_0 rfl ?_
  refine gK_X8_0_1 (σ := σ) (pc := 1) g dX8_transfer_1 ?_
  refine j_aload_n (pc := 4) g 0 dX8_transfer_4 rfl ?_
  refine gK_X8_0_0 (σ := σ) (pc := 5) g dX8_transfer_5 ?_
  obtain ⟨r8, h_8, hf⟩ := gx_bs hf
  refine cK_X8_X2_copyFrom_5_1 (σ := σ) (pc := 8) g (cX2_copyFrom_ (ad := (fun p => ad (p + 15))) (bd := (fun p => ad (p + 1))) h_8) ⟨Nat.le_of_ble_eq_true rfl, Nat.le_of_ble_eq_true rfl⟩ ⟨Nat.zero_le _, Nat.zero_le _⟩ (Nat.le_of_ble_eq_true rfl) dX8_transfer_8 ?_
  refine j_aload_n (pc := 11) g 0 dX8_transfer_11 rfl ?_
  refine j_aload_n (pc := 12) g 0 dX8_transfer_12 rfl ?_
  refine gK_X8_0_0 (σ := (r8.2, (r8.1, σ.2.2))) (pc := 13) g dX8_transfer_13 ?_
  refine j_iload_n (pc := 16) g 1 dX8_transfer_16 rfl ?_
  refine j_iload_n (pc := 17) g 2 dX8_transfer_17 rfl ?_
  obtain ⟨r18, h_18, hf⟩ := gx_bs hf
  refine cK_X8_X2_move_1 (σ := (r8.2, (r8.1, σ.2.2))) (pc := 18) g (cX2_move_ (ad := (fun p => ad (p + 1))) h_18) ⟨Nat.le_of_ble_eq_true rfl, Nat.le_of_ble_eq_true rfl⟩ ⟨Nat.zero_le _, Nat.zero_le _⟩ (Nat.le_of_ble_eq_true rfl) dX8_transfer_18 ?_
  rcases gx_ors hf with ⟨r21, h_21, hf⟩ | ⟨-, hf⟩
  · refine cK_X8_X8_record_0 (σ := (r18.2, (r8.1, σ.2.2))) (pc := 21) g (cX8_record_ h_21) ⟨Nat.le_of_ble_eq_true rfl, Nat.le_of_ble_eq_true rfl⟩ ⟨Nat.zero_le _, Nat.zero_le _⟩ (Nat.le_of_ble_eq_true rfl) dX8_transfer_21 ?_
    cases hf
  · exact j_callVX (pc := 21) (na := 1) (As := [.int r18.1]) (rest := []) (q0 := 0) (ci := 9) gx (eX8_record_ hf) q_i_X8_record q_s_X8_record rfl rfl rfl q_c_X8_record q_l_X8_62 q_n_X8 (by decide +kernel) rfl ⟨Nat.le_of_ble_eq_true rfl, Nat.le_of_ble_eq_true rfl⟩ (Nat.le_of_ble_eq_true rfl) (.refl _) (.refl _) dX8_transfer_21 rfl

set_option maxRecDepth 100000 in
set_option maxHeartbeats 4000000 in
theorem eX8_dismiss_ {D : va_G} {t : Nat → ClassId} {aa : gx_AA} {l : Launch} {ad : Nat → Nat} {rs : va_W} {σ : CS} {p1 : Int32} {q : (Nat × CS)} (hf : xX8_dismiss σ p1 = some q) : gx_CX D t (gx_E0 aa) l yX8_dismiss cX8_dismiss 2 (some .int) 8 131 [.ref (ad 0), .int p1] (kW aa ad t σ rs) (kW aa ad t q.2 rs) (gx_en q.1) := by
  refine gx_intro_x (by decide) (Nat.le_of_ble_eq_true rfl) (fun J gx => ?_)
  have g := gx.g
  unfold xX8_dismiss at hf
  show J 0 0 (kW aa ad t σ rs) 0 [(0, .ref (ad 0)), (1, .int p1)] []
  refine j_aload_n (pc := 0) g 0 dX8_dismiss_0 rfl ?_
  refine gK_X8_0_1 (σ := σ) (pc := 1) g dX8_dismiss_1 ?_
  refine j_aload_n (pc := 4) g 0 dX8_dismiss_4 rfl ?_
  refine gK_X8_0_0 (σ := σ) (pc := 5) g dX8_dismiss_5 ?_
  obtain ⟨r8, h_8, hf⟩ := gx_bs hf
  refine cK_X8_X2_copyFrom_5_1 (σ := σ) (pc := 8) g (cX2_copyFrom_ (ad := (fun p => ad (p + 15))) (bd := (fun p => ad (p + 1))) h_8) ⟨Nat.le_of_ble_eq_true rfl, Nat.le_of_ble_eq_true rfl⟩ ⟨Nat.zero_le _, Nat.zero_le _⟩ (Nat.le_of_ble_eq_true rfl) dX8_dismiss_8 ?_
  refine j_aload_n (pc := 11) g 0 dX8_dismiss_11 rfl ?_
  refine j_aload_n (pc := 12) g 0 dX8_dismiss_12 rfl ?_
  refine gK_X8_0_0 (σ := (r8.2, (r8.1, σ.2.2))) (pc := 13) g dX8_dismiss_13 ?_
  refine j_iload_n (pc := 16) g 1 dX8_dismiss_16 rfl ?_
  obtain ⟨r17, h_17, hf⟩ := gx_bs hf
  refine cK_X8_X2_fire_1 (σ := (r8.2, (r8.1, σ.2.2))) (pc := 17) g (cX2_fire_ (ad := (fun p => ad (p + 1))) h_17) ⟨Nat.le_of_ble_eq_true rfl, Nat.le_of_ble_eq_true rfl⟩ ⟨Nat.zero_le _, Nat.zero_le _⟩ (Nat.le_of_ble_eq_true rfl) dX8_dismiss_17 ?_
  rcases gx_ors hf with ⟨r20, h_20, hf⟩ | ⟨-, hf⟩
  · refine cK_X8_X8_record_0 (σ := (r17.2, (r8.1, σ.2.2))) (pc := 20) g (cX8_record_ h_20) ⟨Nat.le_of_ble_eq_true rfl, Nat.le_of_ble_eq_true rfl⟩ ⟨Nat.zero_le _, Nat.zero_le _⟩ (Nat.le_of_ble_eq_true rfl) dX8_dismiss_20 ?_
    cases hf
  · exact j_callVX (pc := 20) (na := 1) (As := [.int r17.1]) (rest := []) (q0 := 0) (ci := 9) gx (eX8_record_ hf) q_i_X8_record q_s_X8_record rfl rfl rfl q_c_X8_record q_l_X8_62 q_n_X8 (by decide +kernel) rfl ⟨Nat.le_of_ble_eq_true rfl, Nat.le_of_ble_eq_true rfl⟩ (Nat.le_of_ble_eq_true rfl) (.refl _) (.refl _) dX8_dismiss_20 rfl

set_option maxRecDepth 100000 in
set_option maxHeartbeats 4000000 in
theorem eX8_issue_ {D : va_G} {t : Nat → ClassId} {aa : gx_AA} {l : Launch} {ad : Nat → Nat} {rs : va_W} {σ : CS} {p1 : Int32} {p2 : Int32} {p3 : Int32} {q : (Nat × CS)} (hf : xX8_issue σ p1 p2 p3 = some q) : gx_CX D t (gx_E0 aa) l yX8_issue cX8_issue 4 (some .int) 8 131 [.ref (ad 0), .int p1, .int p2, .int p3] (kW aa ad t σ rs) (kW aa ad t q.2 rs) (gx_en q.1) := by
  refine gx_intro_x (by decide) (Nat.le_of_ble_eq_true rfl) (fun J gx => ?_)
  have g := gx.g
  unfold xX8_issue at hf
  show J 0 0 (kW aa ad t σ rs) 0 [(0, .ref (ad 0)), (1, .int p1), (2, .int p2), (3, .int p3)] []
  refine j_aload_n (pc := 0) g 0 dX8_issue_0 rfl ?_
  refine gK_X8_0_1 (σ := σ) (pc := 1) g dX8_issue_1 ?_
  refine j_aload_n (pc := 4) g 0 dX8_issue_4 rfl ?_
  refine gK_X8_0_0 (σ := σ) (pc := 5) g dX8_issue_5 ?_
  obtain ⟨r8, h_8, hf⟩ := gx_bs hf
  refine cK_X8_X2_copyFrom_5_1 (σ := σ) (pc := 8) g (cX2_copyFrom_ (ad := (fun p => ad (p + 15))) (bd := (fun p => ad (p + 1))) h_8) ⟨Nat.le_of_ble_eq_true rfl, Nat.le_of_ble_eq_true rfl⟩ ⟨Nat.zero_le _, Nat.zero_le _⟩ (Nat.le_of_ble_eq_true rfl) dX8_issue_8 ?_
  refine j_aload_n (pc := 11) g 0 dX8_issue_11 rfl ?_
  refine j_aload_n (pc := 12) g 0 dX8_issue_12 rfl ?_
  refine gK_X8_0_0 (σ := (r8.2, (r8.1, σ.2.2))) (pc := 13) g dX8_issue_13 ?_
  refine j_iload_n (pc := 16) g 1 dX8_issue_16 rfl ?_
  refine j_iload_n (pc := 17) g 2 dX8_issue_17 rfl ?_
  refine j_iload_n (pc := 18) g 3 dX8_issue_18 rfl ?_
  obtain ⟨r19, h_19, hf⟩ := gx_bs hf
  refine cK_X8_X2_giveOrder_1 (σ := (r8.2, (r8.1, σ.2.2))) (pc := 19) g (cX2_giveOrder_ (ad := (fun p => ad (p + 1))) h_19) ⟨Nat.le_of_ble_eq_true rfl, Nat.le_of_ble_eq_true rfl⟩ ⟨Nat.zero_le _, Nat.zero_le _⟩ (Nat.le_of_ble_eq_true rfl) dX8_issue_19 ?_
  rcases gx_ors hf with ⟨r22, h_22, hf⟩ | ⟨-, hf⟩
  · refine cK_X8_X8_record_0 (σ := (r19.2, (r8.1, σ.2.2))) (pc := 22) g (cX8_record_ h_22) ⟨Nat.le_of_ble_eq_true rfl, Nat.le_of_ble_eq_true rfl⟩ ⟨Nat.zero_le _, Nat.zero_le _⟩ (Nat.le_of_ble_eq_true rfl) dX8_issue_22 ?_
    cases hf
  · exact j_callVX (pc := 22) (na := 1) (As := [.int r19.1]) (rest := []) (q0 := 0) (ci := 9) gx (eX8_record_ hf) q_i_X8_record q_s_X8_record rfl rfl rfl q_c_X8_record q_l_X8_62 q_n_X8 (by decide +kernel) rfl ⟨Nat.le_of_ble_eq_true rfl, Nat.le_of_ble_eq_true rfl⟩ (Nat.le_of_ble_eq_true rfl) (.refl _) (.refl _) dX8_issue_22 rfl

set_option maxRecDepth 100000 in
set_option maxHeartbeats 4000000 in
theorem eX8_passHours_ {D : va_G} {t : Nat → ClassId} {aa : gx_AA} {l : Launch} {ad : Nat → Nat} {rs : va_W} {σ : CS} {p1 : Int32} {q : (Nat × CS)} (hf : xX8_passHours σ p1 = some q) : gx_CX D t (gx_E0 aa) l yX8_passHours cX8_passHours 2 (some .int) 8 131 [.ref (ad 0), .int p1] (kW aa ad t σ rs) (kW aa ad t q.2 rs) (gx_en q.1) := by
  refine gx_intro_x (by decide) (Nat.le_of_ble_eq_true rfl) (fun J gx => ?_)
  have g := gx.g
  unfold xX8_passHours at hf
  show J 0 0 (kW aa ad t σ rs) 0 [(0, .ref (ad 0)), (1, .int p1)] []
  refine j_aload_n (pc := 0) g 0 dX8_passHours_0 rfl ?_
  refine gK_X8_0_1 (σ := σ) (pc := 1) g dX8_passHours_1 ?_
  refine j_aload_n (pc := 4) g 0 dX8_passHours_4 rfl ?_
  refine gK_X8_0_0 (σ := σ) (pc := 5) g dX8_passHours_5 ?_
  obtain ⟨r8, h_8, hf⟩ := gx_bs hf
  refine cK_X8_X2_copyFrom_5_1 (σ := σ) (pc := 8) g (cX2_copyFrom_ (ad := (fun p => ad (p + 15))) (bd := (fun p => ad (p + 1))) h_8) ⟨Nat.le_of_ble_eq_true rfl, Nat.le_of_ble_eq_true rfl⟩ ⟨Nat.zero_le _, Nat.zero_le _⟩ (Nat.le_of_ble_eq_true rfl) dX8_passHours_8 ?_
  refine j_aload_n (pc := 11) g 0 dX8_passHours_11 rfl ?_
  refine j_aload_n (pc := 12) g 0 dX8_passHours_12 rfl ?_
  refine gK_X8_0_0 (σ := (r8.2, (r8.1, σ.2.2))) (pc := 13) g dX8_passHours_13 ?_
  refine j_iload_n (pc := 16) g 1 dX8_passHours_16 rfl ?_
  obtain ⟨r17, h_17, hf⟩ := gx_bs hf
  refine cK_X8_X2_letHoursPass_1 (σ := (r8.2, (r8.1, σ.2.2))) (pc := 17) g (cX2_letHoursPass_ (ad := (fun p => ad (p + 1))) h_17) ⟨Nat.le_of_ble_eq_true rfl, Nat.le_of_ble_eq_true rfl⟩ ⟨Nat.zero_le _, Nat.zero_le _⟩ (Nat.le_of_ble_eq_true rfl) dX8_passHours_17 ?_
  rcases gx_ors hf with ⟨r20, h_20, hf⟩ | ⟨-, hf⟩
  · refine cK_X8_X8_record_0 (σ := (r17.2, (r8.1, σ.2.2))) (pc := 20) g (cX8_record_ h_20) ⟨Nat.le_of_ble_eq_true rfl, Nat.le_of_ble_eq_true rfl⟩ ⟨Nat.zero_le _, Nat.zero_le _⟩ (Nat.le_of_ble_eq_true rfl) dX8_passHours_20 ?_
    cases hf
  · exact j_callVX (pc := 20) (na := 1) (As := [.int r17.1]) (rest := []) (q0 := 0) (ci := 9) gx (eX8_record_ hf) q_i_X8_record q_s_X8_record rfl rfl rfl q_c_X8_record q_l_X8_62 q_n_X8 (by decide +kernel) rfl ⟨Nat.le_of_ble_eq_true rfl, Nat.le_of_ble_eq_true rfl⟩ (Nat.le_of_ble_eq_true rfl) (.refl _) (.refl _) dX8_passHours_20 rfl

set_option maxRecDepth 100000 in
set_option maxHeartbeats 4000000 in
theorem eX8_define_ {D : va_G} {t : Nat → ClassId} {aa : gx_AA} {l : Launch} {ad : Nat → Nat} {rs : va_W} {σ : CS} {p1 : Int32} {p2 : Int32} {p3 : Int32} {q : (Nat × CS)} (hf : xX8_define σ p1 p2 p3 = some q) : gx_CX D t (gx_E0 aa) l yX8_define cX8_define 4 (some .int) 8 131 [.ref (ad 0), .int p1, .int p2, .int p3] (kW aa ad t σ rs) (kW aa ad t q.2 rs) (gx_en q.1) := by
  refine gx_intro_x (by decide) (Nat.le_of_ble_eq_true rfl) (fun J gx => ?_)
  have g := gx.g
  unfold xX8_define at hf
  show J 0 0 (kW aa ad t σ rs) 0 [(0, .ref (ad 0)), (1, .int p1), (2, .int p2), (3, .int p3)] []
  refine j_aload_n (pc := 0) g 0 dX8_define_0 rfl ?_
  refine gK_X8_0_1 (σ := σ) (pc := 1) g dX8_define_1 ?_
  refine j_aload_n (pc := 4) g 0 dX8_define_4 rfl ?_
  refine gK_X8_0_0 (σ := σ) (pc := 5) g dX8_define_5 ?_
  obtain ⟨r8, h_8, hf⟩ := gx_bs hf
  refine cK_X8_X2_copyFrom_5_1 (σ := σ) (pc := 8) g (cX2_copyFrom_ (ad := (fun p => ad (p + 15))) (bd := (fun p => ad (p + 1))) h_8) ⟨Nat.le_of_ble_eq_true rfl, Nat.le_of_ble_eq_true rfl⟩ ⟨Nat.zero_le _, Nat.zero_le _⟩ (Nat.le_of_ble_eq_true rfl) dX8_define_8 ?_
  refine j_aload_n (pc := 11) g 0 dX8_define_11 rfl ?_
  refine j_aload_n (pc := 12) g 0 dX8_define_12 rfl ?_
  refine gK_X8_0_0 (σ := (r8.2, (r8.1, σ.2.2))) (pc := 13) g dX8_define_13 ?_
  refine gK_X8_1_2 (σ := (r8.2, (r8.1, σ.2.2))) (pc := 16) g dX8_define_16 ?_
  refine j_iload_n (pc := 19) g 1 dX8_define_19 rfl ?_
  refine j_iload_n (pc := 20) g 2 dX8_define_20 rfl ?_
  refine j_iload_n (pc := 21) g 3 dX8_define_21 rfl ?_
  obtain ⟨r22, h_22, hf⟩ := gx_bs hf
  refine cK_X8_X0_assign_4 (σ := (r8.2, (r8.1, σ.2.2))) (pc := 22) g (cX0_assign_ (ad := (fun p => ad (p + 12))) h_22) ⟨Nat.le_of_ble_eq_true rfl, Nat.le_of_ble_eq_true rfl⟩ ⟨Nat.zero_le _, Nat.zero_le _⟩ (Nat.le_of_ble_eq_true rfl) dX8_define_22 ?_
  rcases gx_ors hf with ⟨r25, h_25, hf⟩ | ⟨-, hf⟩
  · refine cK_X8_X8_record_0 (σ := ((r8.2.1, (r8.2.2.1, (r8.2.2.2.1, r22.2))), (r8.1, σ.2.2))) (pc := 25) g (cX8_record_ h_25) ⟨Nat.le_of_ble_eq_true rfl, Nat.le_of_ble_eq_true rfl⟩ ⟨Nat.zero_le _, Nat.zero_le _⟩ (Nat.le_of_ble_eq_true rfl) dX8_define_25 ?_
    cases hf
  · exact j_callVX (pc := 25) (na := 1) (As := [.int r22.1]) (rest := []) (q0 := 0) (ci := 9) gx (eX8_record_ hf) q_i_X8_record q_s_X8_record rfl rfl rfl q_c_X8_record q_l_X8_62 q_n_X8 (by decide +kernel) rfl ⟨Nat.le_of_ble_eq_true rfl, Nat.le_of_ble_eq_true rfl⟩ (Nat.le_of_ble_eq_true rfl) (.refl _) (.refl _) dX8_define_25 rfl

set_option maxRecDepth 100000 in
set_option maxHeartbeats 4000000 in
theorem eX8_erase_ {D : va_G} {t : Nat → ClassId} {aa : gx_AA} {l : Launch} {ad : Nat → Nat} {rs : va_W} {σ : CS} {p1 : Int32} {p2 : Int32} {q : (Nat × CS)} (hf : xX8_erase σ p1 p2 = some q) : gx_CX D t (gx_E0 aa) l yX8_erase cX8_erase 3 (some .int) 8 131 [.ref (ad 0), .int p1, .int p2] (kW aa ad t σ rs) (kW aa ad t q.2 rs) (gx_en q.1) := by
  refine gx_intro_x (by decide) (Nat.le_of_ble_eq_true rfl) (fun J gx => ?_)
  have g := gx.g
  unfold xX8_erase at hf
  show J 0 0 (kW aa ad t σ rs) 0 [(0, .ref (ad 0)), (1, .int p1), (2, .int p2)] []
  refine j_aload_n (pc := 0) g 0 dX8_erase_0 rfl ?_
  refine gK_X8_0_1 (σ := σ) (pc := 1) g dX8_erase_1 ?_
  refine j_aload_n (pc := 4) g 0 dX8_erase_4 rfl ?_
  refine gK_X8_0_0 (σ := σ) (pc := 5) g dX8_erase_5 ?_
  obtain ⟨r8, h_8, hf⟩ := gx_bs hf
  refine cK_X8_X2_copyFrom_5_1 (σ := σ) (pc := 8) g (cX2_copyFrom_ (ad := (fun p => ad (p + 15))) (bd := (fun p => ad (p + 1))) h_8) ⟨Nat.le_of_ble_eq_true rfl, Nat.le_of_ble_eq_true rfl⟩ ⟨Nat.zero_le _, Nat.zero_le _⟩ (Nat.le_of_ble_eq_true rfl) dX8_erase_8 ?_
  refine j_aload_n (pc := 11) g 0 dX8_erase_11 rfl ?_
  refine j_aload_n (pc := 12) g 0 dX8_erase_12 rfl ?_
  refine gK_X8_0_0 (σ := (r8.2, (r8.1, σ.2.2))) (pc := 13) g dX8_erase_13 ?_
  refine gK_X8_1_2 (σ := (r8.2, (r8.1, σ.2.2))) (pc := 16) g dX8_erase_16 ?_
  refine j_iload_n (pc := 19) g 1 dX8_erase_19 rfl ?_
  refine j_iload_n (pc := 20) g 2 dX8_erase_20 rfl ?_
  obtain ⟨r21, h_21, hf⟩ := gx_bs hf
  refine cK_X8_X0_remove_4 (σ := (r8.2, (r8.1, σ.2.2))) (pc := 21) g (cX0_remove_ (ad := (fun p => ad (p + 12))) h_21) ⟨Nat.le_of_ble_eq_true rfl, Nat.le_of_ble_eq_true rfl⟩ ⟨Nat.zero_le _, Nat.zero_le _⟩ (Nat.le_of_ble_eq_true rfl) dX8_erase_21 ?_
  rcases gx_ors hf with ⟨r24, h_24, hf⟩ | ⟨-, hf⟩
  · refine cK_X8_X8_record_0 (σ := ((r8.2.1, (r8.2.2.1, (r8.2.2.2.1, r21.2))), (r8.1, σ.2.2))) (pc := 24) g (cX8_record_ h_24) ⟨Nat.le_of_ble_eq_true rfl, Nat.le_of_ble_eq_true rfl⟩ ⟨Nat.zero_le _, Nat.zero_le _⟩ (Nat.le_of_ble_eq_true rfl) dX8_erase_24 ?_
    cases hf
  · exact j_callVX (pc := 24) (na := 1) (As := [.int r21.1]) (rest := []) (q0 := 0) (ci := 9) gx (eX8_record_ hf) q_i_X8_record q_s_X8_record rfl rfl rfl q_c_X8_record q_l_X8_62 q_n_X8 (by decide +kernel) rfl ⟨Nat.le_of_ble_eq_true rfl, Nat.le_of_ble_eq_true rfl⟩ (Nat.le_of_ble_eq_true rfl) (.refl _) (.refl _) dX8_erase_24 rfl

set_option maxRecDepth 100000 in
set_option maxHeartbeats 4000000 in
theorem eX8_runCommands_ {D : va_G} {t : Nat → ClassId} {aa : gx_AA} {l : Launch} {ad : Nat → Nat} {rs : va_W} {σ : CS} {q : (Nat × CS)} (hf : xX8_runCommands σ = some q) : gx_CX D t (gx_E0 aa) l yX8_runCommands cX8_runCommands 3 (some .int) 20 472 [.ref (ad 0)] (kW aa ad t σ rs) (kW aa ad t q.2 rs) (gx_en q.1) := by
  refine gx_intro_x (by decide) (Nat.le_of_ble_eq_true rfl) (fun J gx => ?_)
  have g := gx.g
  unfold xX8_runCommands at hf
  show J 0 0 (kW aa ad t σ rs) 0 [(0, .ref (ad 0))] []
  refine j_aload_n (pc := 0) g 0 dX8_runCommands_0 rfl ?_
  refine gK_X8_0_1 (σ := σ) (pc := 1) g dX8_runCommands_1 ?_
  refine j_aload_n (pc := 4) g 0 dX8_runCommands_4 rfl ?_
  refine gK_X8_0_0 (σ := σ) (pc := 5) g dX8_runCommands_5 ?_
  obtain ⟨r8, h_8, hf⟩ := gx_bs hf
  refine cK_X8_X2_copyFrom_5_1 (σ := σ) (pc := 8) g (cX2_copyFrom_ (ad := (fun p => ad (p + 15))) (bd := (fun p => ad (p + 1))) h_8) ⟨Nat.le_of_ble_eq_true rfl, Nat.le_of_ble_eq_true rfl⟩ ⟨Nat.zero_le _, Nat.zero_le _⟩ (Nat.le_of_ble_eq_true rfl) dX8_runCommands_8 ?_
  refine j_aload_n (pc := 11) g 0 dX8_runCommands_11 rfl ?_
  refine gK_X8_0_4 (σ := (r8.2, (r8.1, σ.2.2))) (pc := 12) g dX8_runCommands_12 ?_
  obtain ⟨r15, h_15, hf⟩ := gx_bs hf
  refine cK_X8_X5_readAll_13 (σ := (r8.2, (r8.1, σ.2.2))) (pc := 15) g (cX5_readAll_ (ad := (fun p => ad (p + 43))) h_15) ⟨Nat.le_of_ble_eq_true rfl, Nat.le_of_ble_eq_true rfl⟩ ⟨Nat.zero_le _, Nat.zero_le _⟩ (Nat.le_of_ble_eq_true rfl) dX8_runCommands_15 ?_
  refine j_istore_n (L' := [(1, .int r15.1), (0, .ref (ad 0))]) (pc := 18) g dX8_runCommands_18 rfl (Nat.le_of_ble_eq_true rfl) rfl ?_
  refine j_iload_n (pc := 19) g 0 dX8_runCommands_19 rfl ?_
  refine j_iconst (v := -1) (pc := 20) g dX8_runCommands_20 (by decide) ?_
  refine j_icmp_ne (tgt := 56) (pc := 21) g dX8_runCommands_21 (by decide) (fun c_21 => ?_) (fun c_21 => ?_)
  · have hf := gx_if c_21 hf
    refine j_aload_n (pc := 56) g 1 dX8_runCommands_56 rfl ?_
    refine j_iload_n (pc := 57) g 0 dX8_runCommands_57 rfl ?_
    obtain ⟨r58, h_58, hf⟩ := gx_bs hf
    refine cK_X8_X8_carryOutAll_0 (σ := (r8.2, (r8.1, (σ.2.2.1, (r15.2.1, (r15.2.2, σ.2.2.2.2.2)))))) (pc := 58) g (cX8_carryOutAll_ h_58) ⟨Nat.le_of_ble_eq_true rfl, Nat.le_of_ble_eq_true rfl⟩ ⟨Nat.zero_le _, Nat.zero_le _⟩ (Nat.le_of_ble_eq_true rfl) dX8_runCommands_58 ?_
    refine j_istore_n (L' := [(2, .int r58.1), (1, .int r15.1), (0, .ref (ad 0))]) (pc := 61) g dX8_runCommands_61 rfl (Nat.le_of_ble_eq_true rfl) rfl ?_
    refine j_aload_n (pc := 62) g 2 dX8_runCommands_62 rfl ?_
    refine gK_X8_0_4 (σ := r58.2) (pc := 63) g dX8_runCommands_63 ?_
    refine gK_X8_13_0 (σ := r58.2) (pc := 66) g dX8_runCommands_66 ?_
    obtain ⟨r69, h_69, hf⟩ := gx_bs hf
    refine cK_X8_X6_clear_14 (σ := r58.2) (pc := 69) g (cX6_clear_ (ad := (fun p => ad (p + 44))) h_69) ⟨Nat.le_of_ble_eq_true rfl, Nat.le_of_ble_eq_true rfl⟩ ⟨Nat.zero_le _, Nat.zero_le _⟩ (Nat.le_of_ble_eq_true rfl) dX8_runCommands_69 ?_
    refine j_iload_n (pc := 72) g 0 dX8_runCommands_72 rfl ?_
    refine j_iconst (v := -1) (pc := 73) g dX8_runCommands_73 (by decide) ?_
    refine j_icmp_eq (tgt := 104) (pc := 74) g dX8_runCommands_74 (by decide) (fun c_74 => ?_) (fun c_74 => ?_)
    · have hf := gx_it c_74 hf
      refine j_aload_n (pc := 104) g 2 dX8_runCommands_104 rfl ?_
      refine j_iload_n (pc := 105) g 1 dX8_runCommands_105 rfl ?_
      rcases gx_ors hf with ⟨r106, h_106, hf⟩ | ⟨-, hf⟩
      · refine cK_X8_X8_record_0 (σ := (r58.2.1, (r58.2.2.1, (r58.2.2.2.1, (r58.2.2.2.2.1, (r69, r58.2.2.2.2.2.2)))))) (pc := 106) g (cX8_record_ h_106) ⟨Nat.le_of_ble_eq_true rfl, Nat.le_of_ble_eq_true rfl⟩ ⟨Nat.zero_le _, Nat.zero_le _⟩ (Nat.le_of_ble_eq_true rfl) dX8_runCommands_106 ?_
        cases hf
      · exact j_callVX (pc := 106) (na := 1) (As := [.int r15.1]) (rest := []) (q0 := 0) (ci := 9) gx (eX8_record_ hf) q_i_X8_record q_s_X8_record rfl rfl rfl q_c_X8_record q_l_X8_62 q_n_X8 (by decide +kernel) rfl ⟨Nat.le_of_ble_eq_true rfl, Nat.le_of_ble_eq_true rfl⟩ (Nat.le_of_ble_eq_true rfl) (.refl _) (.refl _) dX8_runCommands_106 rfl
    · have hf := gx_if c_74 hf
      refine j_aload_n (pc := 77) g 2 dX8_runCommands_77 rfl ?_
      refine gK_X8_0_0 (σ := (r58.2.1, (r58.2.2.1, (r58.2.2.2.1, (r58.2.2.2.2.1, (r69, r58.2.2.2.2.2.2)))))) (pc := 78) g dX8_runCommands_78 ?_
      refine j_aload_n (pc := 81) g 2 dX8_runCommands_81 rfl ?_
      refine gK_X8_0_1 (σ := (r58.2.1, (r58.2.2.1, (r58.2.2.2.1, (r58.2.2.2.2.1, (r69, r58.2.2.2.2.2.2)))))) (pc := 82) g dX8_runCommands_82 ?_
      obtain ⟨r85, h_85, hf⟩ := gx_bs hf
      refine cK_X8_X2_copyFrom_1_5 (σ := (r58.2.1, (r58.2.2.1, (r58.2.2.2.1, (r58.2.2.2.2.1, (r69, r58.2.2.2.2.2.2)))))) (pc := 85) g (cX2_copyFrom_ (ad := (fun p => ad (p + 1))) (bd := (fun p => ad (p + 15))) h_85) ⟨Nat.le_of_ble_eq_true rfl, Nat.le_of_ble_eq_true rfl⟩ ⟨Nat.zero_le _, Nat.zero_le _⟩ (Nat.le_of_ble_eq_true rfl) dX8_runCommands_85 ?_
      refine j_aload_n (pc := 88) g 2 dX8_runCommands_88 rfl ?_
      refine j_iload_n (pc := 89) g 0 dX8_runCommands_89 rfl ?_
      refine pK_X8_0_8 (σ := (r85.1, (r85.2, (r58.2.2.2.1, (r58.2.2.2.2.1, (r69, r58.2.2.2.2.2.2)))))) (pc := 90) g dX8_runCommands_90 ?_
      cases hf
      exact j_throwW (E0 := "java/lang/UnsupportedOperationException") (is := 271) (text := "a command failed") (pc := 93) gx (by decide +kernel) (by decide +kernel) q_k_X8_269 q_n_ex4 at_273 ag_273 ⟨Nat.le_of_ble_eq_true rfl, Nat.le_of_ble_eq_true rfl⟩ (Nat.le_of_ble_eq_true rfl) dX8_runCommands_93 dX8_runCommands_96 dX8_runCommands_97 dX8_runCommands_100 dX8_runCommands_103
  · have hf := gx_it c_21 hf
    refine j_aload_n (pc := 24) g 1 dX8_runCommands_24 rfl ?_
    refine j_aload_n (pc := 25) g 1 dX8_runCommands_25 rfl ?_
    refine gK_X8_0_4 (σ := (r8.2, (r8.1, (σ.2.2.1, (r15.2.1, (r15.2.2, σ.2.2.2.2.2)))))) (pc := 26) g dX8_runCommands_26 ?_
    refine gK_X8_13_1 (σ := (r8.2, (r8.1, (σ.2.2.1, (r15.2.1, (r15.2.2, σ.2.2.2.2.2)))))) (pc := 29) g dX8_runCommands_29 ?_
    refine pK_X8_0_7 (σ := (r8.2, (r8.1, (σ.2.2.1, (r15.2.1, (r15.2.2, σ.2.2.2.2.2)))))) (pc := 32) g dX8_runCommands_32 ?_
    refine j_aload_n (pc := 35) g 1 dX8_runCommands_35 rfl ?_
    refine gK_X8_0_4 (σ := (r8.2, (r8.1, (σ.2.2.1, (r15.2.1, (r15.2.2, (σ.2.2.2.2.2.1, (σ.2.2.2.2.2.2.1, os_sf σ.2.2.2.2.2.2.2 7 (os_f r15.2.1 1))))))))) (pc := 36) g dX8_runCommands_36 ?_
    refine gK_X8_13_0 (σ := (r8.2, (r8.1, (σ.2.2.1, (r15.2.1, (r15.2.2, (σ.2.2.2.2.2.1, (σ.2.2.2.2.2.2.1, os_sf σ.2.2.2.2.2.2.2 7 (os_f r15.2.1 1))))))))) (pc := 39) g dX8_runCommands_39 ?_
    obtain ⟨r42, h_42, hf⟩ := gx_bs hf
    refine cK_X8_X6_clear_14 (σ := (r8.2, (r8.1, (σ.2.2.1, (r15.2.1, (r15.2.2, (σ.2.2.2.2.2.1, (σ.2.2.2.2.2.2.1, os_sf σ.2.2.2.2.2.2.2 7 (os_f r15.2.1 1))))))))) (pc := 42) g (cX6_clear_ (ad := (fun p => ad (p + 44))) h_42) ⟨Nat.le_of_ble_eq_true rfl, Nat.le_of_ble_eq_true rfl⟩ ⟨Nat.zero_le _, Nat.zero_le _⟩ (Nat.le_of_ble_eq_true rfl) dX8_runCommands_42 ?_
    cases hf
    exact j_throwW (E0 := "java/lang/IllegalArgumentException") (is := 264) (text := "the text is malformed") (pc := 45) gx (by decide +kernel) (by decide +kernel) q_k_X8_175 q_n_ex2 at_179 ag_179 ⟨Nat.le_of_ble_eq_true rfl, Nat.le_of_ble_eq_true rfl⟩ (Nat.le_of_ble_eq_true rfl) dX8_runCommands_45 dX8_runCommands_48 dX8_runCommands_49 dX8_runCommands_52 dX8_runCommands_55
