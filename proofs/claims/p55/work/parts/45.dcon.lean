theorem cK_X8_X3_sumLoyalty_2 {D : va_G} {t : Nat → ClassId} {aa : gx_AA} {l : Launch} {R : Room} {cc : ByteArray} {nL : Nat} {J : gx_J} {ad : Nat → Nat} {rs : va_W} {k n pc : Nat} {L : List (Nat × Value)} {rest : List Value} (g : gx_G D t (gx_E0 aa) l R cc RX8 nL J) {σ : CS} {q : Int32} {fr lo : Nat} (hC : gx_C D t (gx_E0 aa) l yX3_sumLoyalty cX3_sumLoyalty 3 (some .int) fr lo [.ref (ad 2)] (oC (fun p => ad (p + 2)) t σ.1.2.1 ++ (((ad (0 + 1), .inr (4, [.ref (ad (1 + 1)), .ref (ad (7 + 1)), .ref (ad (11 + 1)), .int (os_f σ.1.1 3), .int (os_f σ.1.1 4), .int (os_f σ.1.1 5), .int (os_f σ.1.1 6)])) :: (dC (fun p => ad (p + 8)) t σ.1.2.2.1 ++ bC (fun p => ad (p + 12)) t σ.1.2.2.2)) ++ ([kc0 ad σ.2.2.2.2.2.2.2] ++ (nC (fun p => ad (p + 15)) t σ.2.1 ++ (nC (fun p => ad (p + 29)) t σ.2.2.1 ++ (sC aa (fun p => ad (p + 43)) t (σ.2.2.2.1, σ.2.2.2.2.1) ++ (xC (fun p => ad (p + 46)) t σ.2.2.2.2.2.1 ++ (rC (fun p => ad (p + 48)) t σ.2.2.2.2.2.2.1 ++ rs)))))))) (oC (fun p => ad (p + 2)) t σ.1.2.1 ++ (((ad (0 + 1), .inr (4, [.ref (ad (1 + 1)), .ref (ad (7 + 1)), .ref (ad (11 + 1)), .int (os_f σ.1.1 3), .int (os_f σ.1.1 4), .int (os_f σ.1.1 5), .int (os_f σ.1.1 6)])) :: (dC (fun p => ad (p + 8)) t σ.1.2.2.1 ++ bC (fun p => ad (p + 12)) t σ.1.2.2.2)) ++ ([kc0 ad σ.2.2.2.2.2.2.2] ++ (nC (fun p => ad (p + 15)) t σ.2.1 ++ (nC (fun p => ad (p + 29)) t σ.2.2.1 ++ (sC aa (fun p => ad (p + 43)) t (σ.2.2.2.1, σ.2.2.2.2.1) ++ (xC (fun p => ad (p + 46)) t σ.2.2.2.2.2.1 ++ (rC (fun p => ad (p + 48)) t σ.2.2.2.2.2.2.1 ++ rs)))))))) (some (.int q))) (hR : fr + 1 ≤ R.frames ∧ 8 + (3 + 11) + lo ≤ R.locals) (hkn : k ≤ R.cells ∧ n ≤ R.slots) (hcat : (rest.map fun v => v.category).sum ≤ 8) (hd : decode cc pc = .ok (.invokevirtual 229, 3)) (kk : J k n (kW aa ad t σ rs) (pc + 3) L (.int q :: rest)) : J k n (kW aa ad t σ rs) pc L (.ref (ad 2) :: rest) := j_callVi (na := 0) (As := []) (q0 := 2) (ci := 5) g hC q_i_X3_sumLoyalty q_s_X3_sumLoyalty rfl rfl rfl q_c_X3_sumLoyalty q_l_X8_229 q_n_X3 (by decide +kernel) rfl hR hkn hcat (((pb1 ([kc0 ad σ.2.2.2.2.2.2.2]) (nC (fun p => ad (p + 1)) t σ.1) (nC (fun p => ad (p + 15)) t σ.2.1 ++ (nC (fun p => ad (p + 29)) t σ.2.2.1 ++ (sC aa (fun p => ad (p + 43)) t (σ.2.2.2.1, σ.2.2.2.2.1) ++ (xC (fun p => ad (p + 46)) t σ.2.2.2.2.2.1 ++ (rC (fun p => ad (p + 48)) t σ.2.2.2.2.2.2.1 ++ rs))))))).trans (pm_n1 (fun p => ad (p + 1)) t σ.1 ([kc0 ad σ.2.2.2.2.2.2.2] ++ (nC (fun p => ad (p + 15)) t σ.2.1 ++ (nC (fun p => ad (p + 29)) t σ.2.2.1 ++ (sC aa (fun p => ad (p + 43)) t (σ.2.2.2.1, σ.2.2.2.2.1) ++ (xC (fun p => ad (p + 46)) t σ.2.2.2.2.2.1 ++ (rC (fun p => ad (p + 48)) t σ.2.2.2.2.2.2.1 ++ rs)))))))) ((((pb1 ([kc0 ad σ.2.2.2.2.2.2.2]) (nC (fun p => ad (p + 1)) t σ.1) (nC (fun p => ad (p + 15)) t σ.2.1 ++ (nC (fun p => ad (p + 29)) t σ.2.2.1 ++ (sC aa (fun p => ad (p + 43)) t (σ.2.2.2.1, σ.2.2.2.2.1) ++ (xC (fun p => ad (p + 46)) t σ.2.2.2.2.2.1 ++ (rC (fun p => ad (p + 48)) t σ.2.2.2.2.2.2.1 ++ rs))))))).trans (pm_n1 (fun p => ad (p + 1)) t σ.1 ([kc0 ad σ.2.2.2.2.2.2.2] ++ (nC (fun p => ad (p + 15)) t σ.2.1 ++ (nC (fun p => ad (p + 29)) t σ.2.2.1 ++ (sC aa (fun p => ad (p + 43)) t (σ.2.2.2.1, σ.2.2.2.2.1) ++ (xC (fun p => ad (p + 46)) t σ.2.2.2.2.2.1 ++ (rC (fun p => ad (p + 48)) t σ.2.2.2.2.2.2.1 ++ rs))))))))).symm hd kk rfl
set_option maxRecDepth 100000 in
set_option maxHeartbeats 4000000 in
theorem cX8_meanLoyalty_ {D : va_G} {t : Nat → ClassId} {aa : gx_AA} {l : Launch} {ad : Nat → Nat} {rs : va_W} {σ : CS} {q : UInt64} (hf : fX8_meanLoyalty σ = some q) : gx_C D t (gx_E0 aa) l yX8_meanLoyalty cX8_meanLoyalty 2 (some .double) 1 22 [.ref (ad 0)] (kW aa ad t σ rs) (kW aa ad t σ rs) (some (.double q)) := by
  refine gx_intro_d (by decide) (Nat.le_of_ble_eq_true rfl) (fun J g hE0 => ?_)
  have hE : ∀ (v : UInt64) (pc : Nat) (L : List (Nat × Value)), some v = some q → decode cX8_meanLoyalty pc = .ok (.dreturn, 1) → J 0 0 (kW aa ad t σ rs) pc L [.double v] := fun v pc L h h1 => by cases h; exact hE0 pc L h1
  unfold fX8_meanLoyalty at hf
  show J 0 0 (kW aa ad t σ rs) 0 [(0, .ref (ad 0))] []
  refine j_aload_n (pc := 0) g 0 dX8_meanLoyalty_0 rfl ?_
  refine gK_X8_0_0 (σ := σ) (pc := 1) g dX8_meanLoyalty_1 ?_
  refine gK_X8_1_0 (σ := σ) (pc := 4) g dX8_meanLoyalty_4 ?_
  obtain ⟨r7, h_7, hf⟩ := gx_bs hf
  refine cK_X8_X3_countServing_2 (σ := σ) (pc := 7) g (cX3_countServing_ (ad := (fun p => ad (p + 2))) h_7) ⟨Nat.le_of_ble_eq_true rfl, Nat.le_of_ble_eq_true rfl⟩ ⟨Nat.zero_le _, Nat.zero_le _⟩ (Nat.le_of_ble_eq_true rfl) dX8_meanLoyalty_7 ?_
  refine j_istore_n (L' := [(1, .int r7), (0, .ref (ad 0))]) (pc := 10) g dX8_meanLoyalty_10 rfl (Nat.le_of_ble_eq_true rfl) rfl ?_
  refine j_iload_n (pc := 11) g 0 dX8_meanLoyalty_11 rfl ?_
  refine j_if_le (tgt := 32) (pc := 12) g dX8_meanLoyalty_12 (by decide) (fun c_12 => ?_) (fun c_12 => ?_)
  · have hf := gx_it c_12 hf
    refine j_dconst0 (pc := 32) g dX8_meanLoyalty_32 ?_
    exact hE _ _ _ hf dX8_meanLoyalty_33
  · have hf := gx_if c_12 hf
    refine j_aload_n (pc := 15) g 1 dX8_meanLoyalty_15 rfl ?_
    refine gK_X8_0_0 (σ := σ) (pc := 16) g dX8_meanLoyalty_16 ?_
    refine gK_X8_1_0 (σ := σ) (pc := 19) g dX8_meanLoyalty_19 ?_
    obtain ⟨r22, h_22, hf⟩ := gx_bs hf
    refine cK_X8_X3_sumLoyalty_2 (σ := σ) (pc := 22) g (cX3_sumLoyalty_ (ad := (fun p => ad (p + 2))) h_22) ⟨Nat.le_of_ble_eq_true rfl, Nat.le_of_ble_eq_true rfl⟩ ⟨Nat.zero_le _, Nat.zero_le _⟩ (Nat.le_of_ble_eq_true rfl) dX8_meanLoyalty_22 ?_
    refine j_i2d (pc := 25) g dX8_meanLoyalty_25 ?_
    refine j_iload_n (pc := 26) g 0 dX8_meanLoyalty_26 rfl ?_
    refine j_i2d (pc := 27) g dX8_meanLoyalty_27 ?_
    obtain ⟨h_28, hf⟩ := gx_ck hf
    refine j_ddiv (pc := 28) g h_28 dX8_meanLoyalty_28 ?_
    refine j_goto (tgt := 33) (pc := 29) g dX8_meanLoyalty_29 (by decide) ?_
    exact hE _ _ _ hf dX8_meanLoyalty_33

set_option maxRecDepth 100000 in
set_option maxHeartbeats 4000000 in
theorem cX8_executedShare_ {D : va_G} {t : Nat → ClassId} {aa : gx_AA} {l : Launch} {ad : Nat → Nat} {rs : va_W} {σ : CS} {q : UInt32} (hf : fX8_executedShare σ = some q) : gx_C D t (gx_E0 aa) l yX8_executedShare cX8_executedShare 2 (some .float) 0 0 [.ref (ad 0)] (kW aa ad t σ rs) (kW aa ad t σ rs) (some (.float q)) := by
  refine gx_intro_f (by decide) (Nat.le_of_ble_eq_true rfl) (fun J g hE0 => ?_)
  have hE : ∀ (v : UInt32) (pc : Nat) (L : List (Nat × Value)), some v = some q → decode cX8_executedShare pc = .ok (.freturn, 1) → J 0 0 (kW aa ad t σ rs) pc L [.float v] := fun v pc L h h1 => by cases h; exact hE0 pc L h1
  unfold fX8_executedShare at hf
  show J 0 0 (kW aa ad t σ rs) 0 [(0, .ref (ad 0))] []
  refine j_aload_n (pc := 0) g 0 dX8_executedShare_0 rfl ?_
  refine gK_X8_0_0 (σ := σ) (pc := 1) g dX8_executedShare_1 ?_
  refine gK_X8_1_4 (σ := σ) (pc := 4) g dX8_executedShare_4 ?_
  refine j_aload_n (pc := 7) g 0 dX8_executedShare_7 rfl ?_
  refine gK_X8_0_0 (σ := σ) (pc := 8) g dX8_executedShare_8 ?_
  refine gK_X8_1_5 (σ := σ) (pc := 11) g dX8_executedShare_11 ?_
  refine j_iadd (pc := 14) g dX8_executedShare_14 ?_
  refine j_aload_n (pc := 15) g 0 dX8_executedShare_15 rfl ?_
  refine gK_X8_0_0 (σ := σ) (pc := 16) g dX8_executedShare_16 ?_
  refine gK_X8_1_6 (σ := σ) (pc := 19) g dX8_executedShare_19 ?_
  refine j_iadd (pc := 22) g dX8_executedShare_22 ?_
  refine j_istore_n (L' := [(1, .int (((os_f σ.1.1 4) + (os_f σ.1.1 5)) + (os_f σ.1.1 6))), (0, .ref (ad 0))]) (pc := 23) g dX8_executedShare_23 rfl (Nat.le_of_ble_eq_true rfl) rfl ?_
  refine j_iload_n (pc := 24) g 0 dX8_executedShare_24 rfl ?_
  refine j_if_gt (tgt := 38) (pc := 25) g dX8_executedShare_25 (by decide) (fun c_25 => ?_) (fun c_25 => ?_)
  · have hf := gx_it c_25 hf
    refine j_aload_n (pc := 38) g 1 dX8_executedShare_38 rfl ?_
    refine gK_X8_0_0 (σ := σ) (pc := 39) g dX8_executedShare_39 ?_
    refine gK_X8_1_4 (σ := σ) (pc := 42) g dX8_executedShare_42 ?_
    refine j_i2f (pc := 45) g dX8_executedShare_45 ?_
    refine j_iload_n (pc := 46) g 0 dX8_executedShare_46 rfl ?_
    refine j_i2f (pc := 47) g dX8_executedShare_47 ?_
    obtain ⟨h_48, hf⟩ := gx_ck hf
    refine j_fdiv (pc := 48) g h_48 dX8_executedShare_48 ?_
    exact hE _ _ _ hf dX8_executedShare_49
  · have hf := gx_if c_25 hf
    cases hf

set_option maxRecDepth 100000 in
set_option maxHeartbeats 4000000 in
theorem eX8_executedShare_ {D : va_G} {t : Nat → ClassId} {aa : gx_AA} {l : Launch} {ad : Nat → Nat} {rs : va_W} {σ : CS} {q : (Nat × CS)} (hf : xX8_executedShare σ = some q) : gx_CX D t (gx_E0 aa) l yX8_executedShare cX8_executedShare 2 (some .float) 6 90 [.ref (ad 0)] (kW aa ad t σ rs) (kW aa ad t q.2 rs) (gx_en q.1) := by
  refine gx_intro_x (by decide) (Nat.le_of_ble_eq_true rfl) (fun J gx => ?_)
  have g := gx.g
  unfold xX8_executedShare at hf
  show J 0 0 (kW aa ad t σ rs) 0 [(0, .ref (ad 0))] []
  refine j_aload_n (pc := 0) g 0 dX8_executedShare_0 rfl ?_
  refine gK_X8_0_0 (σ := σ) (pc := 1) g dX8_executedShare_1 ?_
  refine gK_X8_1_4 (σ := σ) (pc := 4) g dX8_executedShare_4 ?_
  refine j_aload_n (pc := 7) g 0 dX8_executedShare_7 rfl ?_
  refine gK_X8_0_0 (σ := σ) (pc := 8) g dX8_executedShare_8 ?_
  refine gK_X8_1_5 (σ := σ) (pc := 11) g dX8_executedShare_11 ?_
  refine j_iadd (pc := 14) g dX8_executedShare_14 ?_
  refine j_aload_n (pc := 15) g 0 dX8_executedShare_15 rfl ?_
  refine gK_X8_0_0 (σ := σ) (pc := 16) g dX8_executedShare_16 ?_
  refine gK_X8_1_6 (σ := σ) (pc := 19) g dX8_executedShare_19 ?_
  refine j_iadd (pc := 22) g dX8_executedShare_22 ?_
  refine j_istore_n (L' := [(1, .int (((os_f σ.1.1 4) + (os_f σ.1.1 5)) + (os_f σ.1.1 6))), (0, .ref (ad 0))]) (pc := 23) g dX8_executedShare_23 rfl (Nat.le_of_ble_eq_true rfl) rfl ?_
  refine j_iload_n (pc := 24) g 0 dX8_executedShare_24 rfl ?_
  refine j_if_gt (tgt := 38) (pc := 25) g dX8_executedShare_25 (by decide) (fun c_25 => ?_) (fun c_25 => ?_)
  · have hf := gx_it c_25 hf
    refine j_aload_n (pc := 38) g 1 dX8_executedShare_38 rfl ?_
    refine gK_X8_0_0 (σ := σ) (pc := 39) g dX8_executedShare_39 ?_
    refine gK_X8_1_4 (σ := σ) (pc := 42) g dX8_executedShare_42 ?_
    refine j_i2f (pc := 45) g dX8_executedShare_45 ?_
    refine j_iload_n (pc := 46) g 0 dX8_executedShare_46 rfl ?_
    refine j_i2f (pc := 47) g dX8_executedShare_47 ?_
    obtain ⟨h_48, hf⟩ := gx_ck hf
    refine j_fdiv (pc := 48) g h_48 dX8_executedShare_48 ?_
    cases hf
  · have hf := gx_if c_25 hf
    cases hf
    exact j_throw (E0 := "java/lang/ArithmeticException") (is := 234) (text := "no order has ended") (pc := 28) gx (by decide +kernel) (by decide +kernel) q_k_X8_232 q_n_ex6 at_236 ag_236 ⟨Nat.le_of_ble_eq_true rfl, Nat.le_of_ble_eq_true rfl⟩ (Nat.le_of_ble_eq_true rfl) dX8_executedShare_28 dX8_executedShare_31 dX8_executedShare_32 dX8_executedShare_34 dX8_executedShare_37
