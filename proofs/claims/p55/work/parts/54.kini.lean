theorem q_l_X8_1 : Cond.methodLink RX8 1 Lib.objectInit ∈ lw_all := lw_in 61 (by decide +kernel) (by decide +kernel)
theorem q_k_X8_7 : Cond.classLink RX8 7 RX2 ∈ lw_all := lw_in 64 (by decide +kernel) (by decide +kernel)
theorem q_k_X8_22 : Cond.classLink RX8 22 RX1 ∈ lw_all := lw_in 184 (by decide +kernel) (by decide +kernel)
theorem q_m_X1 : Cond.instantiable RX1 3 ∈ lw_all := lw_in 185 (by decide +kernel) (by decide +kernel)
theorem q_l_X8_24 : Cond.methodLink RX8 24 yX1_init ∈ lw_all := lw_in 186 (by decide +kernel) (by decide +kernel)
theorem q_i_X1_init : Cond.instanceMethod yX1_init ∈ lw_all := lw_in 187 (by decide +kernel) (by decide +kernel)
theorem q_c_X1_init : Cond.code yX1_init cX1_init 2 none ∈ lw_all := lw_in 188 (by decide +kernel) (by decide +kernel)
theorem q_k_X8_29 : Cond.classLink RX8 29 RX5 ∈ lw_all := lw_in 204 (by decide +kernel) (by decide +kernel)
theorem q_m_X5 : Cond.instantiable RX5 6 ∈ lw_all := lw_in 205 (by decide +kernel) (by decide +kernel)
theorem q_i_X5_init : Cond.instanceMethod yX5_init ∈ lw_all := lw_in 207 (by decide +kernel) (by decide +kernel)
theorem q_c_X5_init : Cond.code yX5_init cX5_init 1 none ∈ lw_all := lw_in 208 (by decide +kernel) (by decide +kernel)
theorem q_k_X8_36 : Cond.classLink RX8 36 RX6 ∈ lw_all := lw_in 253 (by decide +kernel) (by decide +kernel)
theorem q_e_X8_9 {aa : gx_AA} : ∀ (A : Nat → Prop) (U : State) (H : Heap), gx_E0 aa A U H → va_Nw (Cond.methodLinkNest RX8 9 yX2_init "CommandChain") U := fun A U H h => h.1 _ (gx_nest_in 66 (by decide +kernel) (by decide +kernel))
theorem q_e_X8_31 {aa : gx_AA} : ∀ (A : Nat → Prop) (U : State) (H : Heap), gx_E0 aa A U H → va_Nw (Cond.methodLinkNest RX8 31 yX5_init "CommandChain") U := fun A U H h => h.1 _ (gx_nest_in 206 (by decide +kernel) (by decide +kernel))
theorem q_e_X8_38 {aa : gx_AA} : ∀ (A : Nat → Prop) (U : State) (H : Heap), gx_E0 aa A U H → va_Nw (Cond.methodLinkNest RX8 38 yX6_init "CommandChain") U := fun A U H h => h.1 _ (gx_nest_in 254 (by decide +kernel) (by decide +kernel))
def os_k : OS := (fun k => if k = 7 then -1 else if k = 8 then -1 else 0, fun _ _ => 0)
theorem pm_k0 (x s h n3 n2 n1 rs : va_W) : (x ++ (s ++ (h ++ (n3 ++ (n2 ++ (n1 ++ rs)))))).Perm (n1 ++ (n2 ++ (n3 ++ (s ++ (x ++ (h ++ rs)))))) :=
  (((pb5 x s h n3 n2 n1 rs).trans (List.Perm.append_left n1 (pb4 x s h n3 n2 rs))).trans (List.Perm.append_left n1 (List.Perm.append_left n2 (pb3 x s h n3 rs)))).trans (List.Perm.append_left n1 (List.Perm.append_left n2 (List.Perm.append_left n3 (pb1 x s (h ++ rs)))))
set_option maxRecDepth 100000 in
set_option maxHeartbeats 4000000 in
theorem cX8_init_ {D : va_G} {t : Nat → ClassId} {aa : gx_AA} {l : Launch} {rs : va_W} {a : Nat} {qo : OS} (ho : fX3_init = some qo) : gx_CN D t (gx_E0 aa) l yX8_init cX8_init 1 4 81 161 1670 [.ref a] ((a, .inr (9, [.null, .null, .null, .null, .null, .null, .int 0, .int 0, .int 0])) :: rs) (fun w' => ∃ ad : Nat → Nat, ad 0 = a ∧ w' = kW aa ad t ((os_0, qo, os_0, os_0), (os_0, qo, os_0, os_0), (os_0, qo, os_0, os_0), os_0, os_0, os_0, (os_0, fun _ => (os_0, qo, os_0, os_0)), os_k) rs) := by
  refine gx_intro_n (by decide) rfl (Nat.le_of_ble_eq_true rfl) (fun J gi hE => ?_)
  have g := gi.g
  show J 0 0 ((a, .inr (9, [.null, .null, .null, .null, .null, .null, .int 0, .int 0, .int 0])) :: rs) 0 [(0, .ref a)] []
  refine j_aload_n (pc := 0) g 0 dX8_init_0 rfl ?_
  refine j_obj (pc := 1) g q_l_X8_1 q_i_obj q_c_obj (Nat.le_of_ble_eq_true rfl) (Nat.le_of_ble_eq_true rfl) dX8_init_1 ?_
  refine j_aload_n (pc := 4) g 0 dX8_init_4 rfl ?_
  refine j_new (pc := 5) g in_X2 tyX2 tyX2_ok q_k_X8_7 q_m_X2 q_n_X2 (ci := 4) rfl (fs := [.null, .null, .null, .int 0, .int 0, .int 0, .int 0]) (by decide) (Nat.le_of_ble_eq_true rfl) (Nat.le_of_ble_eq_true rfl) dX8_init_5 (fun q9 => ?_)
  refine j_dup (pc := 8) g dX8_init_8 rfl ?_
  refine j_callIn (pc := 9) g (cX2_init_ (rs := (a, .inr (9, [.null, .null, .null, .null, .null, .null, .int 0, .int 0, .int 0])) :: rs) (a := q9) (qo := qo) ho) rfl q_i_X2_init q_c_X2_init q_e_X8_9 q_n_X2 (by decide +kernel) ⟨Nat.le_of_ble_eq_true rfl, Nat.le_of_ble_eq_true rfl⟩ ⟨Nat.le_of_ble_eq_true rfl, Nat.le_of_ble_eq_true rfl⟩ (Nat.le_of_ble_eq_true rfl) (.refl _) dX8_init_9 (fun w9 hw9 => ?_)
  obtain ⟨a1, rfl, rfl⟩ := hw9
  refine j_perm g (List.perm_middle (l₁ := nC a1 t (os_0, qo, os_0, os_0)) (a := (a, .inr (9, [.null, .null, .null, .null, .null, .null, .int 0, .int 0, .int 0]))) (l₂ := rs)) ?_
  refine j_putF (pc := 12) (w' := (a, .inr (9, [.ref (a1 0), .null, .null, .null, .null, .null, .int 0, .int 0, .int 0])) :: (nC a1 t (os_0, qo, os_0, os_0) ++ rs)) gi in_X8 0 rfl rfl 0 (by decide) q_f_X8_10 rfl tyX8 tyX8_ok nmX8 rfl rfl (ty := .object "CommandChain$Navy") (by decide +kernel) rfl rfl (Nat.le_of_ble_eq_true rfl) rfl dX8_init_12 ?_
  refine j_aload_n (pc := 15) g 0 dX8_init_15 rfl ?_
  refine j_new (pc := 16) g in_X2 tyX2 tyX2_ok q_k_X8_7 q_m_X2 q_n_X2 (ci := 4) rfl (fs := [.null, .null, .null, .int 0, .int 0, .int 0, .int 0]) (by decide) (Nat.le_of_ble_eq_true rfl) (Nat.le_of_ble_eq_true rfl) dX8_init_16 (fun q9 => ?_)
  refine j_dup (pc := 19) g dX8_init_19 rfl ?_
  refine j_callIn (pc := 20) g (cX2_init_ (rs := (a, .inr (9, [.ref (a1 0), .null, .null, .null, .null, .null, .int 0, .int 0, .int 0])) :: (nC a1 t (os_0, qo, os_0, os_0) ++ rs)) (a := q9) (qo := qo) ho) rfl q_i_X2_init q_c_X2_init q_e_X8_9 q_n_X2 (by decide +kernel) ⟨Nat.le_of_ble_eq_true rfl, Nat.le_of_ble_eq_true rfl⟩ ⟨Nat.le_of_ble_eq_true rfl, Nat.le_of_ble_eq_true rfl⟩ (Nat.le_of_ble_eq_true rfl) (.refl _) dX8_init_20 (fun w9 hw9 => ?_)
  obtain ⟨a2, rfl, rfl⟩ := hw9
  refine j_perm g (List.perm_middle (l₁ := nC a2 t (os_0, qo, os_0, os_0)) (a := (a, .inr (9, [.ref (a1 0), .null, .null, .null, .null, .null, .int 0, .int 0, .int 0]))) (l₂ := (nC a1 t (os_0, qo, os_0, os_0) ++ rs))) ?_
  refine j_putF (pc := 23) (w' := (a, .inr (9, [.ref (a1 0), .ref (a2 0), .null, .null, .null, .null, .int 0, .int 0, .int 0])) :: (nC a2 t (os_0, qo, os_0, os_0) ++ (nC a1 t (os_0, qo, os_0, os_0) ++ rs))) gi in_X8 0 rfl rfl 1 (by decide) q_f_X8_16 rfl tyX8 tyX8_ok nmX8 rfl rfl (ty := .object "CommandChain$Navy") (by decide +kernel) rfl rfl (Nat.le_of_ble_eq_true rfl) rfl dX8_init_23 ?_
  refine j_aload_n (pc := 26) g 0 dX8_init_26 rfl ?_
  refine j_new (pc := 27) g in_X2 tyX2 tyX2_ok q_k_X8_7 q_m_X2 q_n_X2 (ci := 4) rfl (fs := [.null, .null, .null, .int 0, .int 0, .int 0, .int 0]) (by decide) (Nat.le_of_ble_eq_true rfl) (Nat.le_of_ble_eq_true rfl) dX8_init_27 (fun q9 => ?_)
  refine j_dup (pc := 30) g dX8_init_30 rfl ?_
  refine j_callIn (pc := 31) g (cX2_init_ (rs := (a, .inr (9, [.ref (a1 0), .ref (a2 0), .null, .null, .null, .null, .int 0, .int 0, .int 0])) :: (nC a2 t (os_0, qo, os_0, os_0) ++ (nC a1 t (os_0, qo, os_0, os_0) ++ rs))) (a := q9) (qo := qo) ho) rfl q_i_X2_init q_c_X2_init q_e_X8_9 q_n_X2 (by decide +kernel) ⟨Nat.le_of_ble_eq_true rfl, Nat.le_of_ble_eq_true rfl⟩ ⟨Nat.le_of_ble_eq_true rfl, Nat.le_of_ble_eq_true rfl⟩ (Nat.le_of_ble_eq_true rfl) (.refl _) dX8_init_31 (fun w9 hw9 => ?_)
  obtain ⟨a3, rfl, rfl⟩ := hw9
  refine j_perm g (List.perm_middle (l₁ := nC a3 t (os_0, qo, os_0, os_0)) (a := (a, .inr (9, [.ref (a1 0), .ref (a2 0), .null, .null, .null, .null, .int 0, .int 0, .int 0]))) (l₂ := (nC a2 t (os_0, qo, os_0, os_0) ++ (nC a1 t (os_0, qo, os_0, os_0) ++ rs)))) ?_
  refine j_putF (pc := 34) (w' := (a, .inr (9, [.ref (a1 0), .ref (a2 0), .ref (a3 0), .null, .null, .null, .int 0, .int 0, .int 0])) :: (nC a3 t (os_0, qo, os_0, os_0) ++ (nC a2 t (os_0, qo, os_0, os_0) ++ (nC a1 t (os_0, qo, os_0, os_0) ++ rs)))) gi in_X8 0 rfl rfl 2 (by decide) q_f_X8_19 rfl tyX8 tyX8_ok nmX8 rfl rfl (ty := .object "CommandChain$Navy") (by decide +kernel) rfl rfl (Nat.le_of_ble_eq_true rfl) rfl dX8_init_34 ?_
  refine j_aload_n (pc := 37) g 0 dX8_init_37 rfl ?_
  refine j_new (pc := 38) g in_X1 tyX1 tyX1_ok q_k_X8_22 q_m_X1 q_n_X1 (ci := 3) rfl (fs := [.null, .int 0, .int 0]) (by decide) (Nat.le_of_ble_eq_true rfl) (Nat.le_of_ble_eq_true rfl) dX8_init_38 (fun q9 => ?_)
  refine j_dup (pc := 41) g dX8_init_41 rfl ?_
  refine j_callI (pc := 42) g (cX1_init_ (rs := (a, .inr (9, [.ref (a1 0), .ref (a2 0), .ref (a3 0), .null, .null, .null, .int 0, .int 0, .int 0])) :: (nC a3 t (os_0, qo, os_0, os_0) ++ (nC a2 t (os_0, qo, os_0, os_0) ++ (nC a1 t (os_0, qo, os_0, os_0) ++ rs)))) (a := q9) (qo := qo) ho) rfl q_i_X1_init q_c_X1_init q_l_X8_24 q_n_X1 (by decide +kernel) ⟨Nat.le_of_ble_eq_true rfl, Nat.le_of_ble_eq_true rfl⟩ ⟨Nat.le_of_ble_eq_true rfl, Nat.le_of_ble_eq_true rfl⟩ (Nat.le_of_ble_eq_true rfl) (.refl _) dX8_init_42 (fun w9 hw9 => ?_)
  obtain ⟨a4, rfl, rfl⟩ := hw9
  refine j_perm g (List.perm_middle (l₁ := rC a4 t (os_0, fun _ => (os_0, qo, os_0, os_0))) (a := (a, .inr (9, [.ref (a1 0), .ref (a2 0), .ref (a3 0), .null, .null, .null, .int 0, .int 0, .int 0]))) (l₂ := (nC a3 t (os_0, qo, os_0, os_0) ++ (nC a2 t (os_0, qo, os_0, os_0) ++ (nC a1 t (os_0, qo, os_0, os_0) ++ rs))))) ?_
  refine j_putF (pc := 45) (w' := (a, .inr (9, [.ref (a1 0), .ref (a2 0), .ref (a3 0), .ref (a4 0), .null, .null, .int 0, .int 0, .int 0])) :: (rC a4 t (os_0, fun _ => (os_0, qo, os_0, os_0)) ++ (nC a3 t (os_0, qo, os_0, os_0) ++ (nC a2 t (os_0, qo, os_0, os_0) ++ (nC a1 t (os_0, qo, os_0, os_0) ++ rs))))) gi in_X8 0 rfl rfl 3 (by decide) q_f_X8_25 rfl tyX8 tyX8_ok nmX8 rfl rfl (ty := .object "CommandChain$History") (by decide +kernel) rfl rfl (Nat.le_of_ble_eq_true rfl) rfl dX8_init_45 ?_
  refine j_aload_n (pc := 48) g 0 dX8_init_48 rfl ?_
  refine j_new (pc := 49) g in_X5 tyX5 tyX5_ok q_k_X8_29 q_m_X5 q_n_X5 (ci := 7) rfl (fs := [.null, .int 0, .null, .int 0, .int 0, .int 0]) (by decide) (Nat.le_of_ble_eq_true rfl) (Nat.le_of_ble_eq_true rfl) dX8_init_49 (fun q9 => ?_)
  refine j_dup (pc := 52) g dX8_init_52 rfl ?_
  refine j_callIn (pc := 53) g (cX5_init_ (rs := (a, .inr (9, [.ref (a1 0), .ref (a2 0), .ref (a3 0), .ref (a4 0), .null, .null, .int 0, .int 0, .int 0])) :: (rC a4 t (os_0, fun _ => (os_0, qo, os_0, os_0)) ++ (nC a3 t (os_0, qo, os_0, os_0) ++ (nC a2 t (os_0, qo, os_0, os_0) ++ (nC a1 t (os_0, qo, os_0, os_0) ++ rs))))) (a := q9)) rfl q_i_X5_init q_c_X5_init q_e_X8_31 q_n_X5 (by decide +kernel) ⟨Nat.le_of_ble_eq_true rfl, Nat.le_of_ble_eq_true rfl⟩ ⟨Nat.le_of_ble_eq_true rfl, Nat.le_of_ble_eq_true rfl⟩ (Nat.le_of_ble_eq_true rfl) (.refl _) dX8_init_53 (fun w9 hw9 => ?_)
  obtain ⟨a5, rfl, rfl⟩ := hw9
  refine j_perm g (List.perm_middle (l₁ := sC aa a5 t (os_0, os_0)) (a := (a, .inr (9, [.ref (a1 0), .ref (a2 0), .ref (a3 0), .ref (a4 0), .null, .null, .int 0, .int 0, .int 0]))) (l₂ := (rC a4 t (os_0, fun _ => (os_0, qo, os_0, os_0)) ++ (nC a3 t (os_0, qo, os_0, os_0) ++ (nC a2 t (os_0, qo, os_0, os_0) ++ (nC a1 t (os_0, qo, os_0, os_0) ++ rs)))))) ?_
  refine j_putF (pc := 56) (w' := (a, .inr (9, [.ref (a1 0), .ref (a2 0), .ref (a3 0), .ref (a4 0), .ref (a5 0), .null, .int 0, .int 0, .int 0])) :: (sC aa a5 t (os_0, os_0) ++ (rC a4 t (os_0, fun _ => (os_0, qo, os_0, os_0)) ++ (nC a3 t (os_0, qo, os_0, os_0) ++ (nC a2 t (os_0, qo, os_0, os_0) ++ (nC a1 t (os_0, qo, os_0, os_0) ++ rs)))))) gi in_X8 0 rfl rfl 4 (by decide) q_f_X8_32 rfl tyX8 tyX8_ok nmX8 rfl rfl (ty := .object "CommandChain$Script") (by decide +kernel) rfl rfl (Nat.le_of_ble_eq_true rfl) rfl dX8_init_56 ?_
  refine j_aload_n (pc := 59) g 0 dX8_init_59 rfl ?_
  refine j_new (pc := 60) g in_X6 tyX6 tyX6_ok q_k_X8_36 q_m_X6 q_n_X6 (ci := 8) rfl (fs := [.null, .int 0]) (by decide) (Nat.le_of_ble_eq_true rfl) (Nat.le_of_ble_eq_true rfl) dX8_init_60 (fun q9 => ?_)
  refine j_dup (pc := 63) g dX8_init_63 rfl ?_
  refine j_callIn (pc := 64) g (cX6_init_ (rs := (a, .inr (9, [.ref (a1 0), .ref (a2 0), .ref (a3 0), .ref (a4 0), .ref (a5 0), .null, .int 0, .int 0, .int 0])) :: (sC aa a5 t (os_0, os_0) ++ (rC a4 t (os_0, fun _ => (os_0, qo, os_0, os_0)) ++ (nC a3 t (os_0, qo, os_0, os_0) ++ (nC a2 t (os_0, qo, os_0, os_0) ++ (nC a1 t (os_0, qo, os_0, os_0) ++ rs)))))) (a := q9) (q := os_0) rfl) rfl q_i_X6_init q_c_X6_init q_e_X8_38 q_n_X6 (by decide +kernel) ⟨Nat.le_of_ble_eq_true rfl, Nat.le_of_ble_eq_true rfl⟩ ⟨Nat.le_of_ble_eq_true rfl, Nat.le_of_ble_eq_true rfl⟩ (Nat.le_of_ble_eq_true rfl) (.refl _) dX8_init_64 (fun w9 hw9 => ?_)
  obtain ⟨a6, rfl, rfl⟩ := hw9
  refine j_perm g (List.perm_middle (l₁ := xC a6 t os_0) (a := (a, .inr (9, [.ref (a1 0), .ref (a2 0), .ref (a3 0), .ref (a4 0), .ref (a5 0), .null, .int 0, .int 0, .int 0]))) (l₂ := (sC aa a5 t (os_0, os_0) ++ (rC a4 t (os_0, fun _ => (os_0, qo, os_0, os_0)) ++ (nC a3 t (os_0, qo, os_0, os_0) ++ (nC a2 t (os_0, qo, os_0, os_0) ++ (nC a1 t (os_0, qo, os_0, os_0) ++ rs))))))) ?_
  refine j_putF (pc := 67) (w' := (a, .inr (9, [.ref (a1 0), .ref (a2 0), .ref (a3 0), .ref (a4 0), .ref (a5 0), .ref (a6 0), .int 0, .int 0, .int 0])) :: (xC a6 t os_0 ++ (sC aa a5 t (os_0, os_0) ++ (rC a4 t (os_0, fun _ => (os_0, qo, os_0, os_0)) ++ (nC a3 t (os_0, qo, os_0, os_0) ++ (nC a2 t (os_0, qo, os_0, os_0) ++ (nC a1 t (os_0, qo, os_0, os_0) ++ rs))))))) gi in_X8 0 rfl rfl 5 (by decide) q_f_X8_39 rfl tyX8 tyX8_ok nmX8 rfl rfl (ty := .object "CommandChain$Text") (by decide +kernel) rfl rfl (Nat.le_of_ble_eq_true rfl) rfl dX8_init_67 ?_
  refine j_aload_n (pc := 70) g 0 dX8_init_70 rfl ?_
  refine j_iconst (v := 0) (pc := 71) g dX8_init_71 (by decide) ?_
  refine j_put (pc := 72) (w' := (a, .inr (9, [.ref (a1 0), .ref (a2 0), .ref (a3 0), .ref (a4 0), .ref (a5 0), .ref (a6 0), .int 0, .int 0, .int 0])) :: (xC a6 t os_0 ++ (sC aa a5 t (os_0, os_0) ++ (rC a4 t (os_0, fun _ => (os_0, qo, os_0, os_0)) ++ (nC a3 t (os_0, qo, os_0, os_0) ++ (nC a2 t (os_0, qo, os_0, os_0) ++ (nC a1 t (os_0, qo, os_0, os_0) ++ rs))))))) g in_X8 0 rfl rfl 6 (by decide) q_f_X8_43 rfl tyX8 tyX8_ok nmX8 rfl (ty := .boolean) (by decide +kernel) rfl rfl (Nat.le_of_ble_eq_true rfl) rfl dX8_init_72 ?_
  refine j_aload_n (pc := 75) g 0 dX8_init_75 rfl ?_
  refine j_iconst (v := (-1)) (pc := 76) g dX8_init_76 (by decide) ?_
  refine j_put (pc := 77) (w' := (a, .inr (9, [.ref (a1 0), .ref (a2 0), .ref (a3 0), .ref (a4 0), .ref (a5 0), .ref (a6 0), .int 0, .int (-1), .int 0])) :: (xC a6 t os_0 ++ (sC aa a5 t (os_0, os_0) ++ (rC a4 t (os_0, fun _ => (os_0, qo, os_0, os_0)) ++ (nC a3 t (os_0, qo, os_0, os_0) ++ (nC a2 t (os_0, qo, os_0, os_0) ++ (nC a1 t (os_0, qo, os_0, os_0) ++ rs))))))) g in_X8 0 rfl rfl 7 (by decide) q_f_X8_47 rfl tyX8 tyX8_ok nmX8 rfl (ty := .int) (by decide +kernel) rfl rfl (Nat.le_of_ble_eq_true rfl) rfl dX8_init_77 ?_
  refine j_aload_n (pc := 80) g 0 dX8_init_80 rfl ?_
  refine j_iconst (v := (-1)) (pc := 81) g dX8_init_81 (by decide) ?_
  refine j_put (pc := 82) (w' := (a, .inr (9, [.ref (a1 0), .ref (a2 0), .ref (a3 0), .ref (a4 0), .ref (a5 0), .ref (a6 0), .int 0, .int (-1), .int (-1)])) :: (xC a6 t os_0 ++ (sC aa a5 t (os_0, os_0) ++ (rC a4 t (os_0, fun _ => (os_0, qo, os_0, os_0)) ++ (nC a3 t (os_0, qo, os_0, os_0) ++ (nC a2 t (os_0, qo, os_0, os_0) ++ (nC a1 t (os_0, qo, os_0, os_0) ++ rs))))))) g in_X8 0 rfl rfl 8 (by decide) q_f_X8_51 rfl tyX8 tyX8_ok nmX8 rfl (ty := .int) (by decide +kernel) rfl rfl (Nat.le_of_ble_eq_true rfl) rfl dX8_init_82 ?_
  refine hE _ _ _ _ dX8_init_85 (List.Perm.cons _ (pm_k0 (xC a6 t os_0) (sC aa a5 t (os_0, os_0)) (rC a4 t (os_0, fun _ => (os_0, qo, os_0, os_0))) (nC a3 t (os_0, qo, os_0, os_0)) (nC a2 t (os_0, qo, os_0, os_0)) (nC a1 t (os_0, qo, os_0, os_0)) rs)) ⟨(gx_cat 1 (fun _ => a) (gx_cat 14 a1 (gx_cat 14 a2 (gx_cat 14 a3 (gx_cat 3 a5 (gx_cat 2 a6 a4)))))), rfl, ?_⟩
  have e1 : nC (fun p => (gx_cat 1 (fun _ => a) (gx_cat 14 a1 (gx_cat 14 a2 (gx_cat 14 a3 (gx_cat 3 a5 (gx_cat 2 a6 a4)))))) (p + 1)) t (os_0, qo, os_0, os_0) = nC a1 t (os_0, qo, os_0, os_0) := nC_congr (fun p hp => by rw [gx_cat_hi, gx_cat_lo hp]) t _
  have e2 : nC (fun p => (gx_cat 1 (fun _ => a) (gx_cat 14 a1 (gx_cat 14 a2 (gx_cat 14 a3 (gx_cat 3 a5 (gx_cat 2 a6 a4)))))) (p + 15)) t (os_0, qo, os_0, os_0) = nC a2 t (os_0, qo, os_0, os_0) := nC_congr (fun p hp => by rw [show p + 15 = (p + 14) + 1 by omega, gx_cat_hi, gx_cat_hi, gx_cat_lo hp]) t _
  have e3 : nC (fun p => (gx_cat 1 (fun _ => a) (gx_cat 14 a1 (gx_cat 14 a2 (gx_cat 14 a3 (gx_cat 3 a5 (gx_cat 2 a6 a4)))))) (p + 29)) t (os_0, qo, os_0, os_0) = nC a3 t (os_0, qo, os_0, os_0) := nC_congr (fun p hp => by rw [show p + 29 = ((p + 14) + 14) + 1 by omega, gx_cat_hi, gx_cat_hi, gx_cat_hi, gx_cat_lo hp]) t _
  have e4 : sC aa (fun p => (gx_cat 1 (fun _ => a) (gx_cat 14 a1 (gx_cat 14 a2 (gx_cat 14 a3 (gx_cat 3 a5 (gx_cat 2 a6 a4)))))) (p + 43)) t (os_0, os_0) = sC aa a5 t (os_0, os_0) := sC_congr (fun p hp => by rw [show p + 43 = (((p + 14) + 14) + 14) + 1 by omega, gx_cat_hi, gx_cat_hi, gx_cat_hi, gx_cat_hi, gx_cat_lo hp]) aa t _
  have e5 : xC (fun p => (gx_cat 1 (fun _ => a) (gx_cat 14 a1 (gx_cat 14 a2 (gx_cat 14 a3 (gx_cat 3 a5 (gx_cat 2 a6 a4)))))) (p + 46)) t os_0 = xC a6 t os_0 := xC_congr (fun p hp => by rw [show p + 46 = ((((p + 3) + 14) + 14) + 14) + 1 by omega, gx_cat_hi, gx_cat_hi, gx_cat_hi, gx_cat_hi, gx_cat_hi, gx_cat_lo hp]) t _
  have e6 : (fun p => (gx_cat 1 (fun _ => a) (gx_cat 14 a1 (gx_cat 14 a2 (gx_cat 14 a3 (gx_cat 3 a5 (gx_cat 2 a6 a4)))))) (p + 48)) = a4 := funext (fun p => by rw [show p + 48 = (((((p + 2) + 3) + 14) + 14) + 14) + 1 by omega, gx_cat_hi, gx_cat_hi, gx_cat_hi, gx_cat_hi, gx_cat_hi, gx_cat_hi])
  unfold kW
  dsimp only
  rw [e1, e2, e3, e4, e5, e6]
  rfl
