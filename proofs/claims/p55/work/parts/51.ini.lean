theorem q_l_X0_3 : Cond.methodLink RX0 3 Lib.objectInit ∈ lw_all := lw_in 143 (by decide +kernel) (by decide +kernel)
theorem q_i_obj : Cond.instanceMethod Lib.objectInit ∈ lw_all := lw_in 62 (by decide +kernel) (by decide +kernel)
theorem q_c_obj : Cond.code Lib.objectInit ⟨#[0xb1]⟩ 1 none ∈ lw_all := lw_in 63 (by decide +kernel) (by decide +kernel)
theorem q_a_int : Cond.arrayClass .int ∈ lw_all := lw_in 105 (by decide +kernel) (by decide +kernel)
theorem q_l_X4_3 : Cond.methodLink RX4 3 Lib.objectInit ∈ lw_all := lw_in 112 (by decide +kernel) (by decide +kernel)
theorem q_l_X3_3 : Cond.methodLink RX3 3 Lib.objectInit ∈ lw_all := lw_in 75 (by decide +kernel) (by decide +kernel)
theorem q_a_boolean : Cond.arrayClass .boolean ∈ lw_all := lw_in 106 (by decide +kernel) (by decide +kernel)
theorem q_l_X6_3 : Cond.methodLink RX6 3 Lib.objectInit ∈ lw_all := lw_in 215 (by decide +kernel) (by decide +kernel)
theorem q_a_char : Cond.arrayClass .char ∈ lw_all := lw_in 227 (by decide +kernel) (by decide +kernel)
/-- all zero -/
def os_0 : OS := (fun _ => 0, fun _ _ => 0)
def fX0_init : Option OS := (some os_0)
def fX4_init : Option OS := (some os_0)
def fX3_init : Option OS := (gx_chk (gx_in (0 : Int32) 12) (gx_chk (gx_in (0 : Int32) 12) (gx_chk (gx_in (0 : Int32) 12) (gx_chk (gx_in (0 : Int32) 12) (some (os_sf (os_sa (os_sa (os_sa (os_sa os_0 0 (0 : Int32).toNatClampNeg (9 : Int32)) 1 (0 : Int32).toNatClampNeg (100 : Int32)) 3 (0 : Int32).toNatClampNeg (-1 : Int32)) 4 (0 : Int32).toNatClampNeg (vp_nar .boolean (1 : Int32))) 5 (1 : Int32)))))))
def fX6_init : Option OS := (some os_0)
def fX9_init : Option OS := (gx_chk (gx_in (0 : Int32) 131) (gx_b (fX9_sets (os_sa (os_sf (os_sf os_0 12 (-1 : Int32)) 13 (-1 : Int32)) 1 (0 : Int32).toNatClampNeg (1 : Int32)) (0 : Int32) (0 : Int32) (1 : Int32)) (fun r86 => (gx_b (fX9_sets r86 (0 : Int32) (1 : Int32) (9 : Int32)) (fun r94 => (gx_b (fX9_sets r94 (0 : Int32) (2 : Int32) (100 : Int32)) (fun r102 => (gx_b (fX9_sets r102 (0 : Int32) (4 : Int32) (-1 : Int32)) (fun r109 => (some r109))))))))))
set_option maxRecDepth 100000 in
set_option maxHeartbeats 4000000 in
theorem cX0_init_ {D : va_G} {t : Nat → ClassId} {aa : gx_AA} {l : Launch} {rs : va_W} {a : Nat} {q : OS} (hf : fX0_init = some q) : gx_CN D t (gx_E0 aa) l yX0_init cX0_init 1 1 20 2 40 [.ref a] ((a, .inr (2, [.null, .null, .int 0])) :: rs) (fun w' => ∃ ad : Nat → Nat, ad 0 = a ∧ w' = bC ad t q ++ rs) := by
  refine gx_intro_n (by decide) rfl (Nat.le_of_ble_eq_true rfl) (fun J gi hE => ?_)
  have g := gi.g
  unfold fX0_init at hf
  show J 0 0 ((a, .inr (2, [.null, .null, .int 0])) :: rs) 0 [(0, .ref a)] []
  refine j_aload_n (pc := 0) g 0 dX0_init_0 rfl ?_
  refine j_obj (pc := 1) g q_l_X0_3 q_i_obj q_c_obj (Nat.le_of_ble_eq_true rfl) (Nat.le_of_ble_eq_true rfl) dX0_init_1 ?_
  refine j_aload_n (pc := 4) g 0 dX0_init_4 rfl ?_
  refine j_bipush (v := 20) (pc := 5) g dX0_init_5 (by decide) ?_
  refine j_newi (pc := 7) (N := 20) g q_a_int (by decide) rfl (Nat.le_of_ble_eq_true rfl) (Nat.le_of_ble_eq_true rfl) (Nat.le_of_ble_eq_true rfl) dX0_init_7 (fun q1 => ?_)
  refine j_putF (pc := 9) (w' := [(q1, .inl (t 0, 20, .inl (fun _ => 0))), (a, .inr (2, [.ref q1, .null, .int 0]))] ++ rs) gi in_X0 1 rfl rfl 0 (by decide) q_f_X0_9 rfl tyX0 tyX0_ok nmX0 rfl rfl (ty := .array .int) (by decide +kernel) rfl rfl (Nat.le_of_ble_eq_true rfl) rfl dX0_init_9 ?_
  refine j_aload_n (pc := 12) g 0 dX0_init_12 rfl ?_
  refine j_bipush (v := 20) (pc := 13) g dX0_init_13 (by decide) ?_
  refine j_newi (pc := 15) (N := 20) g q_a_int (by decide) rfl (Nat.le_of_ble_eq_true rfl) (Nat.le_of_ble_eq_true rfl) (Nat.le_of_ble_eq_true rfl) dX0_init_15 (fun q2 => ?_)
  refine j_putF (pc := 17) (w' := [(q2, .inl (t 0, 20, .inl (fun _ => 0))), (q1, .inl (t 0, 20, .inl (fun _ => 0))), (a, .inr (2, [.ref q1, .ref q2, .int 0]))] ++ rs) gi in_X0 2 rfl rfl 1 (by decide) q_f_X0_15 rfl tyX0 tyX0_ok nmX0 rfl rfl (ty := .array .int) (by decide +kernel) rfl rfl (Nat.le_of_ble_eq_true rfl) rfl dX0_init_17 ?_
  suffices K9 : ∀ ad : Nat → Nat, ad 0 = a → J (2) (40) (bC ad t os_0 ++ rs) 20 [(0, .ref (ad 0))] [] from j_perm g (List.Perm.append_right rs (List.reverse_perm (bC (fun i => match i with | 0 => a | 1 => q1 | _ => q2) t os_0))) (K9 (fun i => match i with | 0 => a | 1 => q1 | _ => q2) rfl)
  intro ad had
  cases hf
  exact hE _ _ _ _ dX0_init_20 (.refl _) ⟨ad, had, rfl⟩
set_option maxRecDepth 100000 in
set_option maxHeartbeats 4000000 in
theorem cX4_init_ {D : va_G} {t : Nat → ClassId} {aa : gx_AA} {l : Launch} {rs : va_W} {a : Nat} {q : OS} (hf : fX4_init = some q) : gx_CN D t (gx_E0 aa) l yX4_init cX4_init 1 1 20 3 18 [.ref a] ((a, .inr (6, [.null, .null, .null, .int 0, .int 0])) :: rs) (fun w' => ∃ ad : Nat → Nat, ad 0 = a ∧ w' = dC ad t q ++ rs) := by
  refine gx_intro_n (by decide) rfl (Nat.le_of_ble_eq_true rfl) (fun J gi hE => ?_)
  have g := gi.g
  unfold fX4_init at hf
  show J 0 0 ((a, .inr (6, [.null, .null, .null, .int 0, .int 0])) :: rs) 0 [(0, .ref a)] []
  refine j_aload_n (pc := 0) g 0 dX4_init_0 rfl ?_
  refine j_obj (pc := 1) g q_l_X4_3 q_i_obj q_c_obj (Nat.le_of_ble_eq_true rfl) (Nat.le_of_ble_eq_true rfl) dX4_init_1 ?_
  refine j_aload_n (pc := 4) g 0 dX4_init_4 rfl ?_
  refine j_bipush (v := 6) (pc := 5) g dX4_init_5 (by decide) ?_
  refine j_newi (pc := 7) (N := 6) g q_a_int (by decide) rfl (Nat.le_of_ble_eq_true rfl) (Nat.le_of_ble_eq_true rfl) (Nat.le_of_ble_eq_true rfl) dX4_init_7 (fun q1 => ?_)
  refine j_putF (pc := 9) (w' := [(q1, .inl (t 0, 6, .inl (fun _ => 0))), (a, .inr (6, [.ref q1, .null, .null, .int 0, .int 0]))] ++ rs) gi in_X4 1 rfl rfl 0 (by decide) q_f_X4_9 rfl tyX4 tyX4_ok nmX4 rfl rfl (ty := .array .int) (by decide +kernel) rfl rfl (Nat.le_of_ble_eq_true rfl) rfl dX4_init_9 ?_
  refine j_aload_n (pc := 12) g 0 dX4_init_12 rfl ?_
  refine j_bipush (v := 6) (pc := 13) g dX4_init_13 (by decide) ?_
  refine j_newi (pc := 15) (N := 6) g q_a_int (by decide) rfl (Nat.le_of_ble_eq_true rfl) (Nat.le_of_ble_eq_true rfl) (Nat.le_of_ble_eq_true rfl) dX4_init_15 (fun q2 => ?_)
  refine j_putF (pc := 17) (w' := [(q2, .inl (t 0, 6, .inl (fun _ => 0))), (q1, .inl (t 0, 6, .inl (fun _ => 0))), (a, .inr (6, [.ref q1, .ref q2, .null, .int 0, .int 0]))] ++ rs) gi in_X4 2 rfl rfl 1 (by decide) q_f_X4_15 rfl tyX4 tyX4_ok nmX4 rfl rfl (ty := .array .int) (by decide +kernel) rfl rfl (Nat.le_of_ble_eq_true rfl) rfl dX4_init_17 ?_
  refine j_aload_n (pc := 20) g 0 dX4_init_20 rfl ?_
  refine j_bipush (v := 6) (pc := 21) g dX4_init_21 (by decide) ?_
  refine j_newi (pc := 23) (N := 6) g q_a_int (by decide) rfl (Nat.le_of_ble_eq_true rfl) (Nat.le_of_ble_eq_true rfl) (Nat.le_of_ble_eq_true rfl) dX4_init_23 (fun q3 => ?_)
  refine j_putF (pc := 25) (w' := [(q3, .inl (t 0, 6, .inl (fun _ => 0))), (q2, .inl (t 0, 6, .inl (fun _ => 0))), (q1, .inl (t 0, 6, .inl (fun _ => 0))), (a, .inr (6, [.ref q1, .ref q2, .ref q3, .int 0, .int 0]))] ++ rs) gi in_X4 3 rfl rfl 2 (by decide) q_f_X4_18 rfl tyX4 tyX4_ok nmX4 rfl rfl (ty := .array .int) (by decide +kernel) rfl rfl (Nat.le_of_ble_eq_true rfl) rfl dX4_init_25 ?_
  suffices K9 : ∀ ad : Nat → Nat, ad 0 = a → J (3) (18) (dC ad t os_0 ++ rs) 28 [(0, .ref (ad 0))] [] from j_perm g (List.Perm.append_right rs (List.reverse_perm (dC (fun i => match i with | 0 => a | 1 => q1 | 2 => q2 | _ => q3) t os_0))) (K9 (fun i => match i with | 0 => a | 1 => q1 | 2 => q2 | _ => q3) rfl)
  intro ad had
  cases hf
  exact hE _ _ _ _ dX4_init_28 (.refl _) ⟨ad, had, rfl⟩
set_option maxRecDepth 100000 in
set_option maxHeartbeats 4000000 in
theorem cX3_init_ {D : va_G} {t : Nat → ClassId} {aa : gx_AA} {l : Launch} {rs : va_W} {a : Nat} {q : OS} (hf : fX3_init = some q) : gx_CN D t (gx_E0 aa) l yX3_init cX3_init 1 1 20 5 60 [.ref a] ((a, .inr (5, [.null, .null, .null, .null, .null, .int 0])) :: rs) (fun w' => ∃ ad : Nat → Nat, ad 0 = a ∧ w' = oC ad t q ++ rs) := by
  refine gx_intro_n (by decide) rfl (Nat.le_of_ble_eq_true rfl) (fun J gi hE => ?_)
  have g := gi.g
  unfold fX3_init at hf
  show J 0 0 ((a, .inr (5, [.null, .null, .null, .null, .null, .int 0])) :: rs) 0 [(0, .ref a)] []
  refine j_aload_n (pc := 0) g 0 dX3_init_0 rfl ?_
  refine j_obj (pc := 1) g q_l_X3_3 q_i_obj q_c_obj (Nat.le_of_ble_eq_true rfl) (Nat.le_of_ble_eq_true rfl) dX3_init_1 ?_
  refine j_aload_n (pc := 4) g 0 dX3_init_4 rfl ?_
  refine j_bipush (v := 12) (pc := 5) g dX3_init_5 (by decide) ?_
  refine j_newi (pc := 7) (N := 12) g q_a_int (by decide) rfl (Nat.le_of_ble_eq_true rfl) (Nat.le_of_ble_eq_true rfl) (Nat.le_of_ble_eq_true rfl) dX3_init_7 (fun q1 => ?_)
  refine j_putF (pc := 9) (w' := [(q1, .inl (t 0, 12, .inl (fun _ => 0))), (a, .inr (5, [.ref q1, .null, .null, .null, .null, .int 0]))] ++ rs) gi in_X3 1 rfl rfl 0 (by decide) q_f_X3_9 rfl tyX3 tyX3_ok nmX3 rfl rfl (ty := .array .int) (by decide +kernel) rfl rfl (Nat.le_of_ble_eq_true rfl) rfl dX3_init_9 ?_
  refine j_aload_n (pc := 12) g 0 dX3_init_12 rfl ?_
  refine j_bipush (v := 12) (pc := 13) g dX3_init_13 (by decide) ?_
  refine j_newi (pc := 15) (N := 12) g q_a_int (by decide) rfl (Nat.le_of_ble_eq_true rfl) (Nat.le_of_ble_eq_true rfl) (Nat.le_of_ble_eq_true rfl) dX3_init_15 (fun q2 => ?_)
  refine j_putF (pc := 17) (w' := [(q2, .inl (t 0, 12, .inl (fun _ => 0))), (q1, .inl (t 0, 12, .inl (fun _ => 0))), (a, .inr (5, [.ref q1, .ref q2, .null, .null, .null, .int 0]))] ++ rs) gi in_X3 2 rfl rfl 1 (by decide) q_f_X3_15 rfl tyX3 tyX3_ok nmX3 rfl rfl (ty := .array .int) (by decide +kernel) rfl rfl (Nat.le_of_ble_eq_true rfl) rfl dX3_init_17 ?_
  refine j_aload_n (pc := 20) g 0 dX3_init_20 rfl ?_
  refine j_bipush (v := 12) (pc := 21) g dX3_init_21 (by decide) ?_
  refine j_newi (pc := 23) (N := 12) g q_a_int (by decide) rfl (Nat.le_of_ble_eq_true rfl) (Nat.le_of_ble_eq_true rfl) (Nat.le_of_ble_eq_true rfl) dX3_init_23 (fun q3 => ?_)
  refine j_putF (pc := 25) (w' := [(q3, .inl (t 0, 12, .inl (fun _ => 0))), (q2, .inl (t 0, 12, .inl (fun _ => 0))), (q1, .inl (t 0, 12, .inl (fun _ => 0))), (a, .inr (5, [.ref q1, .ref q2, .ref q3, .null, .null, .int 0]))] ++ rs) gi in_X3 3 rfl rfl 2 (by decide) q_f_X3_18 rfl tyX3 tyX3_ok nmX3 rfl rfl (ty := .array .int) (by decide +kernel) rfl rfl (Nat.le_of_ble_eq_true rfl) rfl dX3_init_25 ?_
  refine j_aload_n (pc := 28) g 0 dX3_init_28 rfl ?_
  refine j_bipush (v := 12) (pc := 29) g dX3_init_29 (by decide) ?_
  refine j_newi (pc := 31) (N := 12) g q_a_int (by decide) rfl (Nat.le_of_ble_eq_true rfl) (Nat.le_of_ble_eq_true rfl) (Nat.le_of_ble_eq_true rfl) dX3_init_31 (fun q4 => ?_)
  refine j_putF (pc := 33) (w' := [(q4, .inl (t 0, 12, .inl (fun _ => 0))), (q3, .inl (t 0, 12, .inl (fun _ => 0))), (q2, .inl (t 0, 12, .inl (fun _ => 0))), (q1, .inl (t 0, 12, .inl (fun _ => 0))), (a, .inr (5, [.ref q1, .ref q2, .ref q3, .ref q4, .null, .int 0]))] ++ rs) gi in_X3 4 rfl rfl 3 (by decide) q_f_X3_21 rfl tyX3 tyX3_ok nmX3 rfl rfl (ty := .array .int) (by decide +kernel) rfl rfl (Nat.le_of_ble_eq_true rfl) rfl dX3_init_33 ?_
  refine j_aload_n (pc := 36) g 0 dX3_init_36 rfl ?_
  refine j_bipush (v := 12) (pc := 37) g dX3_init_37 (by decide) ?_
  refine j_newz (pc := 39) (N := 12) g q_a_boolean (by decide) rfl (Nat.le_of_ble_eq_true rfl) (Nat.le_of_ble_eq_true rfl) (Nat.le_of_ble_eq_true rfl) dX3_init_39 (fun q5 => ?_)
  refine j_putF (pc := 41) (w' := [(q5, .inl (t 1, 12, .inl (fun _ => 0))), (q4, .inl (t 0, 12, .inl (fun _ => 0))), (q3, .inl (t 0, 12, .inl (fun _ => 0))), (q2, .inl (t 0, 12, .inl (fun _ => 0))), (q1, .inl (t 0, 12, .inl (fun _ => 0))), (a, .inr (5, [.ref q1, .ref q2, .ref q3, .ref q4, .ref q5, .int 0]))] ++ rs) gi in_X3 5 rfl rfl 4 (by decide) q_f_X3_24 rfl tyX3 tyX3_ok nmX3 rfl rfl (ty := .array .boolean) (by decide +kernel) rfl rfl (Nat.le_of_ble_eq_true rfl) rfl dX3_init_41 ?_
  suffices K9 : ∀ ad : Nat → Nat, ad 0 = a → J (5) (60) (oC ad t os_0 ++ rs) 44 [(0, .ref (ad 0))] [] from j_perm g (List.Perm.append_right rs (List.reverse_perm (oC (fun i => match i with | 0 => a | 1 => q1 | 2 => q2 | 3 => q3 | 4 => q4 | _ => q5) t os_0))) (K9 (fun i => match i with | 0 => a | 1 => q1 | 2 => q2 | 3 => q3 | 4 => q4 | _ => q5) rfl)
  intro ad had
  refine j_aload_n (pc := 44) g 0 dX3_init_44 rfl ?_
  refine gO_X3_0_0 (σ := os_0) (pc := 45) g dX3_init_45 ?_
  refine j_iconst (v := 0) (pc := 48) g dX3_init_48 (by decide) ?_
  refine j_bipush (v := 9) (pc := 49) g dX3_init_49 (by decide) ?_
  obtain ⟨h_51, hf⟩ := gx_ck hf
  refine sO_X3_0_0 (σ := os_0) (pc := 51) g h_51 dX3_init_51 ?_
  refine j_aload_n (pc := 52) g 0 dX3_init_52 rfl ?_
  refine gO_X3_0_1 (σ := os_sa os_0 0 (0 : Int32).toNatClampNeg (9 : Int32)) (pc := 53) g dX3_init_53 ?_
  refine j_iconst (v := 0) (pc := 56) g dX3_init_56 (by decide) ?_
  refine j_bipush (v := 100) (pc := 57) g dX3_init_57 (by decide) ?_
  obtain ⟨h_59, hf⟩ := gx_ck hf
  refine sO_X3_0_1 (σ := os_sa os_0 0 (0 : Int32).toNatClampNeg (9 : Int32)) (pc := 59) g h_59 dX3_init_59 ?_
  refine j_aload_n (pc := 60) g 0 dX3_init_60 rfl ?_
  refine gO_X3_0_3 (σ := os_sa (os_sa os_0 0 (0 : Int32).toNatClampNeg (9 : Int32)) 1 (0 : Int32).toNatClampNeg (100 : Int32)) (pc := 61) g dX3_init_61 ?_
  refine j_iconst (v := 0) (pc := 64) g dX3_init_64 (by decide) ?_
  refine j_iconst (v := -1) (pc := 65) g dX3_init_65 (by decide) ?_
  obtain ⟨h_66, hf⟩ := gx_ck hf
  refine sO_X3_0_3 (σ := os_sa (os_sa os_0 0 (0 : Int32).toNatClampNeg (9 : Int32)) 1 (0 : Int32).toNatClampNeg (100 : Int32)) (pc := 66) g h_66 dX3_init_66 ?_
  refine j_aload_n (pc := 67) g 0 dX3_init_67 rfl ?_
  refine gO_X3_0_4 (σ := os_sa (os_sa (os_sa os_0 0 (0 : Int32).toNatClampNeg (9 : Int32)) 1 (0 : Int32).toNatClampNeg (100 : Int32)) 3 (0 : Int32).toNatClampNeg (-1 : Int32)) (pc := 68) g dX3_init_68 ?_
  refine j_iconst (v := 0) (pc := 71) g dX3_init_71 (by decide) ?_
  refine j_iconst (v := 1) (pc := 72) g dX3_init_72 (by decide) ?_
  obtain ⟨h_73, hf⟩ := gx_ck hf
  refine sO_X3_0_4 (σ := os_sa (os_sa (os_sa os_0 0 (0 : Int32).toNatClampNeg (9 : Int32)) 1 (0 : Int32).toNatClampNeg (100 : Int32)) 3 (0 : Int32).toNatClampNeg (-1 : Int32)) (pc := 73) g h_73 dX3_init_73 ?_
  refine j_aload_n (pc := 74) g 0 dX3_init_74 rfl ?_
  refine j_iconst (v := 1) (pc := 75) g dX3_init_75 (by decide) ?_
  refine pO_X3_0_5 (σ := os_sa (os_sa (os_sa (os_sa os_0 0 (0 : Int32).toNatClampNeg (9 : Int32)) 1 (0 : Int32).toNatClampNeg (100 : Int32)) 3 (0 : Int32).toNatClampNeg (-1 : Int32)) 4 (0 : Int32).toNatClampNeg (vp_nar .boolean (1 : Int32))) (pc := 76) g dX3_init_76 ?_
  cases hf
  exact hE _ _ _ _ dX3_init_79 (.refl _) ⟨ad, had, rfl⟩
set_option maxRecDepth 100000 in
set_option maxHeartbeats 4000000 in
theorem cX6_init_ {D : va_G} {t : Nat → ClassId} {aa : gx_AA} {l : Launch} {rs : va_W} {a : Nat} {q : OS} (hf : fX6_init = some q) : gx_CN D t (gx_E0 aa) l yX6_init cX6_init 1 1 20 1 60 [.ref a] ((a, .inr (8, [.null, .int 0])) :: rs) (fun w' => ∃ ad : Nat → Nat, ad 0 = a ∧ w' = xC ad t q ++ rs) := by
  refine gx_intro_n (by decide) rfl (Nat.le_of_ble_eq_true rfl) (fun J gi hE => ?_)
  have g := gi.g
  unfold fX6_init at hf
  show J 0 0 ((a, .inr (8, [.null, .int 0])) :: rs) 0 [(0, .ref a)] []
  refine j_aload_n (pc := 0) g 0 dX6_init_0 rfl ?_
  refine j_obj (pc := 1) g q_l_X6_3 q_i_obj q_c_obj (Nat.le_of_ble_eq_true rfl) (Nat.le_of_ble_eq_true rfl) dX6_init_1 ?_
  refine j_aload_n (pc := 4) g 0 dX6_init_4 rfl ?_
  refine j_bipush (v := 60) (pc := 5) g dX6_init_5 (by decide) ?_
  refine j_newc (pc := 7) (N := 60) g q_a_char (by decide) rfl (Nat.le_of_ble_eq_true rfl) (Nat.le_of_ble_eq_true rfl) (Nat.le_of_ble_eq_true rfl) dX6_init_7 (fun q1 => ?_)
  refine j_putF (pc := 9) (w' := [(q1, .inl (t 2, 60, .inl (fun _ => 0))), (a, .inr (8, [.ref q1, .int 0]))] ++ rs) gi in_X6 1 rfl rfl 0 (by decide) q_f_X6_9 rfl tyX6 tyX6_ok nmX6 rfl rfl (ty := .array .char) (by decide +kernel) rfl rfl (Nat.le_of_ble_eq_true rfl) rfl dX6_init_9 ?_
  suffices K9 : ∀ ad : Nat → Nat, ad 0 = a → J (1) (60) (xC ad t os_0 ++ rs) 12 [(0, .ref (ad 0))] [] from j_perm g (List.Perm.append_right rs (List.reverse_perm (xC (fun i => match i with | 0 => a | _ => q1) t os_0))) (K9 (fun i => match i with | 0 => a | _ => q1) rfl)
  intro ad had
  cases hf
  exact hE _ _ _ _ dX6_init_12 (.refl _) ⟨ad, had, rfl⟩