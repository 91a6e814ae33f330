/-! StringBuilder's methods over a world of the builder and her bytes; capacities 16 and 34 -/
abbrev sbB (t : Nat → ClassId) (b da : Nat) (ml : Int32) (n M : Nat) (f : Nat → Int32) (rs : va_W) : va_W := (b, .inr (10, [.ref da, .int 0, .int ml, .int (nI n)])) :: (da, .inl (t 5, M, .inl f)) :: rs
def sbT (cs : List Nat) (f : Nat → Int32) : Prop := ∀ j, j < cs.length → f j = nI (cs.getD j 0)
def zOut (t : Nat → ClassId) (b : Nat) (cs : List Nat) (rs : va_W) (w : va_W) : Prop := ∃ (da : Nat) (ml : Int32) (M : Nat) (f : Nat → Int32), w = sbB t b da ml cs.length M f rs ∧ (M = 16 ∨ M = 34) ∧ cs.length ≤ M ∧ sb_Fit f ∧ sbT cs f
def zE (aa : gx_AA) (E : gx_E) : Prop := ∀ (A : Nat → Prop) (U : State) (H : Heap), E A U H → gx_E0 aa A U H
theorem zE.cs {aa : gx_AA} {E : gx_E} (h : zE aa E) : ∀ (A : Nat → Prop) (U : State) (H : Heap), E A U H → va_Z "java/lang/String" "COMPACT_STRINGS" "Z" (.int 1) A U H := fun A U H hE => e_cs A U H (h A U H hE)
section SB
variable {D : va_G} {t : Nat → ClassId} {aa : gx_AA} {E : gx_E} {l : Launch} {b da : Nat} {ml : Int32} {n M : Nat} {f : Nat → Int32} {rs : va_W}
set_option maxRecDepth 100000 in
set_option maxHeartbeats 4000000 in
theorem z_isLatin1 (h0 : zE aa E) : gx_CP D t E l yJ5_isLatin1_aae02 cJ5_isLatin1_aae02 1 (some .boolean) 0 0 0 0 [.ref b] (sbB t b da ml n M f rs) (fun r w' => r = some (.int 1) ∧ w' = sbB t b da ml n M f rs) := by
  refine gx_intro_pi (by decide) (Nat.le_of_ble_eq_true rfl) (fun J g hE => ?_)
  refine j_gets (pc := 0) g h0.cs q_f_J5_18 rfl dJ5_isLatin1_aae02_0 ?_
  refine j_if_eq (tgt := 17) (pc := 3) g dJ5_isLatin1_aae02_3 (by decide) (fun h => absurd h (by decide)) (fun _ => ?_)
  refine j_aload_n (pc := 6) g 0 dJ5_isLatin1_aae02_6 rfl ?_
  refine j_get (pc := 7) g in_J4 0 rfl (ci := 10) rfl 1 (by decide) q_f_J5_22 rfl rfl dJ5_isLatin1_aae02_7 ?_
  refine j_if_ne (tgt := 17) (pc := 10) g dJ5_isLatin1_aae02_10 (by decide) (fun h => absurd rfl h) (fun _ => ?_)
  refine j_iconst (v := 1) (pc := 13) g dJ5_isLatin1_aae02_13 (by decide) ?_
  refine j_goto (tgt := 18) (pc := 14) g dJ5_isLatin1_aae02_14 (by decide) ?_
  exact hE _ _ _ _ _ dJ5_isLatin1_aae02_18 rfl (.refl _) ⟨rfl, rfl⟩
set_option maxRecDepth 100000 in
set_option maxHeartbeats 4000000 in
theorem z_newLength {w : va_W} {q : Nat} (hq : 16 < q ∧ q ≤ 34) : gx_CP D t E l yJ8_newLength_cabcc cJ8_newLength_cabcc 4 (some .int) 1 30 0 0 [.int 16, .int (nI (q - 16)), .int 18] w (fun r w' => r = some (.int 34) ∧ w' = w) := by
  have hm : (if nI (q - 16) < (18 : Int32) then (18 : Int32) else nI (q - 16)) = 18 := by
    obtain ⟨h1, h2⟩ := hq
    have h3 : q - 16 < 19 := by omega
    exact (by decide : ∀ i, i < 19 → (if nI i < (18 : Int32) then (18 : Int32) else nI i) = 18) _ h3
  refine gx_intro_pi (by decide) (Nat.le_of_ble_eq_true rfl) (fun J g hE => ?_)
  refine j_iload_n (pc := 0) g 0 dJ8_newLength_cabcc_0 rfl ?_
  refine j_iload_n (pc := 1) g 1 dJ8_newLength_cabcc_1 rfl ?_
  refine j_iload_n (pc := 2) g 2 dJ8_newLength_cabcc_2 rfl ?_
  refine j_max (pc := 3) g q_l_J8_194 q_t_J9_max_7cf53 q_n_J9 q_c_J9_max_7cf53 (Nat.le_of_ble_eq_true rfl) (Nat.le_of_ble_eq_true rfl) ⟨Nat.zero_le _, Nat.zero_le _⟩ dJ8_newLength_cabcc_3 ?_
  rw [hm]
  refine j_iadd (pc := 6) g dJ8_newLength_cabcc_6 ?_
  refine j_istore_n (i := 3) (L' := [(3, .int 34), (0, .int 16), (1, .int (nI (q - 16))), (2, .int 18)]) (pc := 7) g dJ8_newLength_cabcc_7 rfl (Nat.le_of_ble_eq_true rfl) rfl ?_
  refine j_iconst (v := 0) (pc := 8) g dJ8_newLength_cabcc_8 (by decide) ?_
  refine j_iload_n (pc := 9) g 0 dJ8_newLength_cabcc_9 rfl ?_
  refine j_icmp_ge (tgt := 21) (pc := 10) g dJ8_newLength_cabcc_10 (by decide) (fun h => absurd h (by decide)) (fun _ => ?_)
  refine j_iload_n (pc := 13) g 0 dJ8_newLength_cabcc_13 rfl ?_
  refine j_ldci (pc := 14) g q_x_J8_200 dJ8_newLength_cabcc_14 ?_
  refine j_icmp_gt (tgt := 21) (pc := 16) g dJ8_newLength_cabcc_16 (by decide) (fun h => absurd h (by decide)) (fun _ => ?_)
  refine j_iload_n (pc := 19) g 0 dJ8_newLength_cabcc_19 rfl ?_
  exact hE _ _ _ _ _ dJ8_newLength_cabcc_20 rfl (.refl _) ⟨rfl, rfl⟩
theorem z_shl : ∀ q, q < 40 → (nI q) <<< ((0 : Int32) &&& 31) = nI q := by decide
theorem z_sub16 : ∀ q, q < 40 → 16 < q → nI q - Int32.ofNat 16 = nI (q - 16) := by decide
set_option maxRecDepth 100000 in
set_option maxHeartbeats 4000000 in
theorem z_newCapacity {q : Nat} (hq : 16 < q ∧ q ≤ 34) : gx_CP D t E l yJ5_newCapacity_0f7a4 cJ5_newCapacity_0f7a4 6 (some .int) 2 60 0 0 [.ref b, .int (nI q)] (sbB t b da ml n 16 f rs) (fun r w' => r = some (.int 34) ∧ w' = sbB t b da ml n 16 f rs) := by
  refine gx_intro_pi (by decide) (Nat.le_of_ble_eq_true rfl) (fun J g hE => ?_)
  refine j_aload_n (pc := 0) g 0 dJ5_newCapacity_0f7a4_0 rfl ?_
  refine j_get (pc := 1) g in_J4 0 rfl (ci := 10) rfl 0 (by decide) q_f_J5_15 rfl rfl dJ5_newCapacity_0f7a4_1 ?_
  refine j_alenb (pc := 4) g 1 rfl dJ5_newCapacity_0f7a4_4 ?_
  refine j_istore_n (i := 2) (L' := [(2, .int 16), (0, .ref b), (1, .int (nI q))]) (pc := 5) g dJ5_newCapacity_0f7a4_5 rfl (Nat.le_of_ble_eq_true rfl) rfl ?_
  refine j_iload_n (pc := 6) g 2 dJ5_newCapacity_0f7a4_6 rfl ?_
  refine j_aload_n (pc := 7) g 1 dJ5_newCapacity_0f7a4_7 rfl ?_
  refine j_get (pc := 8) g in_J4 0 rfl (ci := 10) rfl 1 (by decide) q_f_J5_22 rfl rfl dJ5_newCapacity_0f7a4_8 ?_
  refine j_ishl (pc := 11) g dJ5_newCapacity_0f7a4_11 ?_
  rw [z_shl q (by omega)]
  refine j_istore_n (i := 3) (L' := [(3, .int (nI q)), (2, .int 16), (0, .ref b), (1, .int (nI q))]) (pc := 12) g dJ5_newCapacity_0f7a4_12 rfl (Nat.le_of_ble_eq_true rfl) rfl ?_
  refine j_iload_n (pc := 13) g 0 dJ5_newCapacity_0f7a4_13 rfl ?_
  refine j_iload_n (pc := 14) g 1 dJ5_newCapacity_0f7a4_14 rfl ?_
  refine j_isub (pc := 15) g dJ5_newCapacity_0f7a4_15 ?_
  rw [show nI q - (16 : Int32) = nI (q - 16) from z_sub16 q (by omega) hq.1]
  refine j_istore (i := 4) (L' := [(4, .int (nI (q - 16))), (3, .int (nI q)), (2, .int 16), (0, .ref b), (1, .int (nI q))]) (pc := 16) g dJ5_newCapacity_0f7a4_16 (Nat.le_of_ble_eq_true rfl) rfl ?_
  refine j_iload_n (pc := 18) g 2 dJ5_newCapacity_0f7a4_18 rfl ?_
  refine j_iload (pc := 19) g 0 dJ5_newCapacity_0f7a4_19 rfl ?_
  refine j_iload_n (pc := 21) g 2 dJ5_newCapacity_0f7a4_21 rfl ?_
  refine j_iconst (v := 2) (pc := 22) g dJ5_newCapacity_0f7a4_22 (by decide) ?_
  refine j_aload_n (pc := 23) g 3 dJ5_newCapacity_0f7a4_23 rfl ?_
  refine j_get (pc := 24) g in_J4 0 rfl (ci := 10) rfl 1 (by decide) q_f_J5_22 rfl rfl dJ5_newCapacity_0f7a4_24 ?_
  refine j_ishl (pc := 27) g dJ5_newCapacity_0f7a4_27 ?_
  refine j_iadd (pc := 28) g dJ5_newCapacity_0f7a4_28 ?_
  rw [show (16 : Int32) + (2 : Int32) <<< ((0 : Int32) &&& 31) = 18 from by decide]
  refine j_callPS (pc := 29) (na := 3) (As := [.int 16, .int (nI (q - 16)), .int 18]) (rest := []) g (z_newLength hq) q_t_J8_newLength_cabcc q_c_J8_newLength_cabcc q_l_J5_114 q_n_J8 (by decide +kernel) rfl ⟨Nat.le_of_ble_eq_true rfl, Nat.le_of_ble_eq_true rfl⟩ ⟨Nat.zero_le _, Nat.zero_le _⟩ (Nat.le_of_ble_eq_true rfl) (.refl _) dJ5_newCapacity_0f7a4_29 rfl ?_
  rintro r w' ⟨rfl, rfl⟩
  refine j_istore (i := 5) (L' := [(5, .int 34), (4, .int (nI (q - 16))), (3, .int (nI q)), (2, .int 16), (0, .ref b), (1, .int (nI q))]) (pc := 32) g dJ5_newCapacity_0f7a4_32 (Nat.le_of_ble_eq_true rfl) rfl ?_
  refine j_iload (pc := 34) g 0 dJ5_newCapacity_0f7a4_34 rfl ?_
  refine j_ldci (pc := 36) g q_x_J5_39 dJ5_newCapacity_0f7a4_36 ?_
  refine j_icmp_ne (tgt := 51) (pc := 38) g dJ5_newCapacity_0f7a4_38 (by decide) (fun _ => ?_) (fun h => absurd h (by decide))
  refine j_iload (pc := 51) g 0 dJ5_newCapacity_0f7a4_51 rfl ?_
  refine j_aload_n (pc := 53) g 4 dJ5_newCapacity_0f7a4_53 rfl ?_
  refine j_get (pc := 54) g in_J4 0 rfl (ci := 10) rfl 1 (by decide) q_f_J5_22 rfl rfl dJ5_newCapacity_0f7a4_54 ?_
  refine j_ishr (pc := 57) g dJ5_newCapacity_0f7a4_57 ?_
  exact hE _ _ _ _ _ dJ5_newCapacity_0f7a4_58 rfl (.refl _) ⟨rfl, rfl⟩
set_option maxRecDepth 100000 in
set_option maxHeartbeats 4000000 in
theorem z_copyOf (hf : sb_Fit f) : gx_CP D t E l yJ7_copyOf_9075b cJ7_copyOf_9075b 3 (some (.array .byte)) 1 60 1 34 [.ref da, .int 34] ((da, .inl (t 5, 16, .inl f)) :: rs) (fun r w' => ∃ (q : Nat) (f' : Nat → Int32), r = some (.ref q) ∧ w' = (q, .inl (t 5, 34, .inl f')) :: (da, .inl (t 5, 16, .inl f)) :: rs ∧ sb_Fit f' ∧ ∀ j, j < 16 → f' j = f j) := by
  refine gx_intro_pa (by decide) (Nat.le_of_ble_eq_true rfl) (Or.inr ⟨_, rfl⟩) (fun J g hE => ?_)
  refine j_iload_n (pc := 0) g 1 dJ7_copyOf_9075b_0 rfl ?_
  refine j_aload_n (pc := 1) g 0 dJ7_copyOf_9075b_1 rfl ?_
  refine j_alenb (pc := 2) g 0 rfl dJ7_copyOf_9075b_2 ?_
  refine j_icmp_ne (tgt := 14) (pc := 3) g dJ7_copyOf_9075b_3 (by decide) (fun _ => ?_) (fun h => absurd h (by decide))
  refine j_iload_n (pc := 14) g 1 dJ7_copyOf_9075b_14 rfl ?_
  refine j_newb (pc := 15) (N := 34) g q_a_byte (by decide) (by decide) (by decide) (Nat.le_of_ble_eq_true rfl) (Nat.le_of_ble_eq_true rfl) dJ7_copyOf_9075b_15 (fun q => ?_)
  refine j_astore_n (i := 2) (L' := [(2, .ref q), (0, .ref da), (1, .int 34)]) (pc := 17) g dJ7_copyOf_9075b_17 rfl (Nat.le_of_ble_eq_true rfl) rfl ?_
  refine j_aload_n (pc := 18) g 1 dJ7_copyOf_9075b_18 rfl ?_
  refine j_iconst (v := 0) (pc := 19) g dJ7_copyOf_9075b_19 (by decide) ?_
  refine j_aload_n (pc := 20) g 0 dJ7_copyOf_9075b_20 rfl ?_
  refine j_iconst (v := 0) (pc := 21) g dJ7_copyOf_9075b_21 (by decide) ?_
  refine j_aload_n (pc := 22) g 1 dJ7_copyOf_9075b_22 rfl ?_
  refine j_alenb (pc := 23) g 1 rfl dJ7_copyOf_9075b_23 ?_
  refine j_iload_n (pc := 24) g 2 dJ7_copyOf_9075b_24 rfl ?_
  refine j_min (pc := 25) g q_l_J7_304 q_t_J9_min_7cf53 q_n_J9 q_c_J9_min_7cf53 (Nat.le_of_ble_eq_true rfl) (Nat.le_of_ble_eq_true rfl) ⟨Nat.le_of_ble_eq_true rfl, Nat.le_of_ble_eq_true rfl⟩ dJ7_copyOf_9075b_25 ?_
  rw [show (if (34 : Int32) < Int32.ofNat 16 then (34 : Int32) else Int32.ofNat 16) = 16 from by decide]
  refine j_copyb (pc := 28) g q_l_J7_150 q_v_copy q_t_copy q_n_J10 1 0 rfl rfl (by decide) (by decide) (by decide) (by decide) (by decide) hf (Nat.le_of_ble_eq_true rfl) (Nat.le_of_ble_eq_true rfl) rfl dJ7_copyOf_9075b_28 ?_
  refine j_aload_n (pc := 31) g 0 dJ7_copyOf_9075b_31 rfl ?_
  exact hE _ _ _ _ _ dJ7_copyOf_9075b_32 (.refl _) ⟨q, _, rfl, rfl, sb_fitC hf sb_fit0, fun j hj => sb_cpy0 hj⟩
end SB
