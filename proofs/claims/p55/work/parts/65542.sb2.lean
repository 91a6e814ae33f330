theorem z_priv {aa : gx_AA} {E : gx_E} (h0 : zE aa E) {y : MethodName} (hp : Cond.privateMethod y ∈ gx_face) (hy : y.cls ≠ "java/lang/invoke/MethodHandle" ∧ y.cls ≠ "java/lang/invoke/VarHandle") (hs : Cond.sameMethod y.cls y.cls y.name y.desc ∈ lw_all) (hi : Cond.instanceMethod y ∈ lw_all) :
    ∀ (s : State) (args : Array Value) (A : Nat → Prop), (∀ w ∈ lw_all, w.before args s = true) → E A s s.heap → (Cond.selects RJ4 y y).before args s = true := fun s args A hts hE => by
  obtain ⟨-, -, -, -, -, -, -, -, -, -, -, -, h13, -⟩ := h0 A s s.heap hE
  exact k3_sel hy (hts _ q_in_J4) (hts _ hs) ((h13 _ hp).use rfl) (hts _ hi)
theorem z_le16 : ∀ q, q < 40 → (nI q - (Int32.ofNat 16) >>> ((0 : Int32) &&& 31) ≤ 0 ↔ q ≤ 16) := by decide
theorem z_le34 : ∀ q, q < 35 → nI q - (Int32.ofNat 34) >>> ((0 : Int32) &&& 31) ≤ 0 := by decide
theorem z_shrM : (Int32.ofNat 16) >>> ((0 : Int32) &&& 31) = 16 ∧ (Int32.ofNat 34) >>> ((0 : Int32) &&& 31) = 34 := by decide
section SB2
variable {D : va_G} {t : Nat → ClassId} {aa : gx_AA} {E : gx_E} {l : Launch} {b da : Nat} {ml : Int32} {n M : Nat} {f : Nat → Int32} {rs : va_W}
def zGrow (t : Nat → ClassId) (b : Nat) (ml : Int32) (n M q : Nat) (f : Nat → Int32) (rs : va_W) (r : Option Value) (w' : va_W) : Prop := r = none ∧ ∃ (da' M' : Nat) (f' : Nat → Int32), w' = sbB t b da' ml n M' f' rs ∧ (M' = 16 ∨ M' = 34) ∧ q ≤ M' ∧ M ≤ M' ∧ sb_Fit f' ∧ ∀ j, j < M → f' j = f j
set_option maxRecDepth 100000 in
set_option maxHeartbeats 4000000 in
theorem z_ensure (h0 : zE aa E) {q : Nat} (hq : q ≤ 34) (hM : M = 16 ∨ M = 34) (hf : sb_Fit f) : gx_CP D t E l yJ5_ensureCapacityInternal_d00df cJ5_ensureCapacityInternal_d00df 3 none 3 90 1 34 [.ref b, .int (nI q)] (sbB t b da ml n M f rs) (zGrow t b ml n M q f rs) := by
  refine gx_intro_pv (by decide) (Nat.le_of_ble_eq_true rfl) (fun J g hE => ?_)
  refine j_aload_n (pc := 0) g 0 dJ5_ensureCapacityInternal_d00df_0 rfl ?_
  refine j_get (pc := 1) g in_J4 0 rfl (ci := 10) rfl 0 (by decide) q_f_J5_15 rfl rfl dJ5_ensureCapacityInternal_d00df_1 ?_
  refine j_alenb (pc := 4) g 1 rfl dJ5_ensureCapacityInternal_d00df_4 ?_
  refine j_aload_n (pc := 5) g 0 dJ5_ensureCapacityInternal_d00df_5 rfl ?_
  refine j_get (pc := 6) g in_J4 0 rfl (ci := 10) rfl 1 (by decide) q_f_J5_22 rfl rfl dJ5_ensureCapacityInternal_d00df_6 ?_
  refine j_ishr (pc := 9) g dJ5_ensureCapacityInternal_d00df_9 ?_
  refine j_istore_n (i := 2) (L' := [(2, .int ((Int32.ofNat M) >>> ((0 : Int32) &&& 31))), (0, .ref b), (1, .int (nI q))]) (pc := 10) g dJ5_ensureCapacityInternal_d00df_10 rfl (Nat.le_of_ble_eq_true rfl) rfl ?_
  refine j_iload_n (pc := 11) g 2 dJ5_ensureCapacityInternal_d00df_11 rfl ?_
  refine j_iload_n (pc := 12) g 0 dJ5_ensureCapacityInternal_d00df_12 rfl ?_
  refine j_isub (pc := 13) g dJ5_ensureCapacityInternal_d00df_13 ?_
  refine j_if_le (tgt := 38) (pc := 14) g dJ5_ensureCapacityInternal_d00df_14 (by decide) (fun hle => ?_) (fun hgt => ?_)
  · refine j_wid g (k' := 1) (n' := 34) (Nat.zero_le _) (Nat.zero_le _) ?_
    refine hE _ _ _ _ dJ5_ensureCapacityInternal_d00df_38 (.refl _) ⟨rfl, da, M, f, rfl, hM, ?_, Nat.le_refl _, hf, fun _ _ => rfl⟩
    rcases hM with rfl | rfl
    · exact (z_le16 q (by omega)).mp hle
    · exact hq
  · rcases hM with rfl | rfl
    · have hq1 : 16 < q := Nat.not_le.mp (fun h => hgt ((z_le16 q (by omega)).mpr h))
      refine j_aload_n (pc := 17) g 1 dJ5_ensureCapacityInternal_d00df_17 rfl ?_
      refine j_aload_n (pc := 18) g 1 dJ5_ensureCapacityInternal_d00df_18 rfl ?_
      refine j_get (pc := 19) g in_J4 0 rfl (ci := 10) rfl 0 (by decide) q_f_J5_15 rfl rfl dJ5_ensureCapacityInternal_d00df_19 ?_
      refine j_aload_n (pc := 22) g 1 dJ5_ensureCapacityInternal_d00df_22 rfl ?_
      refine j_iload_n (pc := 23) g 2 dJ5_ensureCapacityInternal_d00df_23 rfl ?_
      refine j_callPU (pc := 24) (na := 1) (As := [.int (nI q)]) (rest := [.ref da, .ref b]) g (qc := (RJ4, TJ4, 4)) yJ5_newCapacity_0f7a4 (z_newCapacity ⟨hq1, hq⟩) (ci := 10) (q0 := 0) rfl rfl q_i_J5_newCapacity_0f7a4 q_i_J5_newCapacity_0f7a4 q_c_J5_newCapacity_0f7a4 q_m_J5_newCapacity_0f7a4 (z_priv h0 q_p_J5_newCapacity_0f7a4 (by decide) q_m_J5_newCapacity_0f7a4 q_i_J5_newCapacity_0f7a4) q_c_J5_newCapacity_0f7a4 q_l_J5_104 q_n_J5 (by decide +kernel) rfl ⟨Nat.le_of_ble_eq_true rfl, Nat.le_of_ble_eq_true rfl⟩ ⟨Nat.zero_le _, Nat.zero_le _⟩ (Nat.le_of_ble_eq_true rfl) (.refl _) dJ5_ensureCapacityInternal_d00df_24 rfl ?_
      rintro r w' ⟨rfl, rfl⟩
      refine j_aload_n (pc := 27) g 1 dJ5_ensureCapacityInternal_d00df_27 rfl ?_
      refine j_get (pc := 28) g in_J4 0 rfl (ci := 10) rfl 1 (by decide) q_f_J5_22 rfl rfl dJ5_ensureCapacityInternal_d00df_28 ?_
      refine j_ishl (pc := 31) g dJ5_ensureCapacityInternal_d00df_31 ?_
      rw [show (34 : Int32) <<< ((0 : Int32) &&& 31) = 34 from by decide]
      refine j_callPS (pc := 32) (na := 2) (As := [.ref da, .int 34]) (rest := [.ref b]) g (z_copyOf (rs := (b, .inr (10, [.ref da, .int 0, .int ml, .int (nI n)])) :: rs) hf) q_t_J7_copyOf_9075b q_c_J7_copyOf_9075b q_l_J5_108 q_n_J7 (by decide +kernel) rfl ⟨Nat.le_of_ble_eq_true rfl, Nat.le_of_ble_eq_true rfl⟩ ⟨Nat.le_of_ble_eq_true rfl, Nat.le_of_ble_eq_true rfl⟩ (Nat.le_of_ble_eq_true rfl) (.swap _ _ _) dJ5_ensureCapacityInternal_d00df_32 rfl ?_
      rintro r w' ⟨da', f', rfl, rfl, hf', hk⟩
      refine j_put (pc := 35) g in_J4 2 rfl (ci := 10) rfl 0 (by decide) q_f_J5_15 rfl tyJ4 tyJ4_ok nmJ4 rfl (ty := .array .byte) (tyJ4_ok 0 (by decide)) rfl rfl (Nat.le_of_ble_eq_true rfl) rfl dJ5_ensureCapacityInternal_d00df_35 ?_
      refine j_dropw (w' := (da', .inl (t 5, 34, .inl f')) :: (b, .inr (10, [.ref da', .int 0, .int ml, .int (nI n)])) :: rs) g ?_ ?_
      · exact List.Sublist.cons_cons _ (List.Sublist.cons _ (List.Sublist.refl _))
      exact hE _ _ _ _ dJ5_ensureCapacityInternal_d00df_38 (.swap _ _ _) ⟨rfl, da', 34, f', rfl, Or.inr rfl, hq, by decide, hf', hk⟩
    · exact absurd (z_le34 q (by omega)) hgt
set_option maxRecDepth 100000 in
set_option maxHeartbeats 4000000 in
theorem z_canEncode {w : va_W} {c : Nat} (hc : c < 128) : gx_CP D t E l yJ1_canEncode_fc78d cJ1_canEncode_fc78d 1 (some .boolean) 0 0 0 0 [.int (nI c)] w (fun r w' => r = some (.int 1) ∧ w' = w) := by
  refine gx_intro_pi (by decide) (Nat.le_of_ble_eq_true rfl) (fun J g hE => ?_)
  refine j_iload_n (pc := 0) g 0 dJ1_canEncode_fc78d_0 rfl ?_
  refine j_sipush (v := 255) (pc := 1) g dJ1_canEncode_fc78d_1 (by decide) ?_
  refine j_icmp_gt (tgt := 11) (pc := 4) g dJ1_canEncode_fc78d_4 (by decide) (fun h => absurd h ((by decide : ∀ c, c < 128 → ¬ (255 : Int32) < nI c) c hc)) (fun _ => ?_)
  refine j_iconst (v := 1) (pc := 7) g dJ1_canEncode_fc78d_7 (by decide) ?_
  refine j_goto (tgt := 12) (pc := 8) g dJ1_canEncode_fc78d_8 (by decide) ?_
  exact hE _ _ _ _ _ dJ1_canEncode_fc78d_12 rfl (.refl _) ⟨rfl, rfl⟩
end SB2
