theorem q_l_X2_3 : Cond.methodLink RX2 3 Lib.objectInit ∈ lw_all := lw_in 69 (by decide +kernel) (by decide +kernel)
theorem q_k_X2_9 : Cond.classLink RX2 9 RX3 ∈ lw_all := lw_in 70 (by decide +kernel) (by decide +kernel)
theorem q_m_X3 : Cond.instantiable RX3 6 ∈ lw_all := lw_in 71 (by decide +kernel) (by decide +kernel)
theorem q_l_X2_11 : Cond.methodLink RX2 11 yX3_init ∈ lw_all := lw_in 72 (by decide +kernel) (by decide +kernel)
theorem q_i_X3_init : Cond.instanceMethod yX3_init ∈ lw_all := lw_in 73 (by decide +kernel) (by decide +kernel)
theorem q_c_X3_init : Cond.code yX3_init cX3_init 1 none ∈ lw_all := lw_in 74 (by decide +kernel) (by decide +kernel)
theorem q_k_X2_18 : Cond.classLink RX2 18 RX4 ∈ lw_all := lw_in 107 (by decide +kernel) (by decide +kernel)
theorem q_m_X4 : Cond.instantiable RX4 5 ∈ lw_all := lw_in 108 (by decide +kernel) (by decide +kernel)
theorem q_i_X4_init : Cond.instanceMethod yX4_init ∈ lw_all := lw_in 110 (by decide +kernel) (by decide +kernel)
theorem q_c_X4_init : Cond.code yX4_init cX4_init 1 none ∈ lw_all := lw_in 111 (by decide +kernel) (by decide +kernel)
theorem q_k_X2_25 : Cond.classLink RX2 25 RX0 ∈ lw_all := lw_in 138 (by decide +kernel) (by decide +kernel)
theorem q_m_X0 : Cond.instantiable RX0 3 ∈ lw_all := lw_in 139 (by decide +kernel) (by decide +kernel)
theorem q_i_X0_init : Cond.instanceMethod yX0_init ∈ lw_all := lw_in 141 (by decide +kernel) (by decide +kernel)
theorem q_c_X0_init : Cond.code yX0_init cX0_init 1 none ∈ lw_all := lw_in 142 (by decide +kernel) (by decide +kernel)
theorem q_l_X5_3 : Cond.methodLink RX5 3 Lib.objectInit ∈ lw_all := lw_in 209 (by decide +kernel) (by decide +kernel)
theorem q_k_X5_9 : Cond.classLink RX5 9 RX6 ∈ lw_all := lw_in 210 (by decide +kernel) (by decide +kernel)
theorem q_m_X6 : Cond.instantiable RX6 2 ∈ lw_all := lw_in 211 (by decide +kernel) (by decide +kernel)
theorem q_i_X6_init : Cond.instanceMethod yX6_init ∈ lw_all := lw_in 213 (by decide +kernel) (by decide +kernel)
theorem q_c_X6_init : Cond.code yX6_init cX6_init 1 none ∈ lw_all := lw_in 214 (by decide +kernel) (by decide +kernel)
theorem q_e_X2_20 {aa : gx_AA} : ∀ (A : Nat → Prop) (U : State) (H : Heap), gx_E0 aa A U H → va_Nw (Cond.methodLinkNest RX2 20 yX4_init "CommandChain") U := fun A U H h => h.1 _ (gx_nest_in 109 (by decide +kernel) (by decide +kernel))
theorem q_e_X2_27 {aa : gx_AA} : ∀ (A : Nat → Prop) (U : State) (H : Heap), gx_E0 aa A U H → va_Nw (Cond.methodLinkNest RX2 27 yX0_init "CommandChain") U := fun A U H h => h.1 _ (gx_nest_in 140 (by decide +kernel) (by decide +kernel))
theorem q_e_X5_11 {aa : gx_AA} : ∀ (A : Nat → Prop) (U : State) (H : Heap), gx_E0 aa A U H → va_Nw (Cond.methodLinkNest RX5 11 yX6_init "CommandChain") U := fun A U H h => h.1 _ (gx_nest_in 212 (by decide +kernel) (by decide +kernel))
theorem bC_congr {f g : Nat → Nat} (h : ∀ p, p < 3 → f p = g p) (t : Nat → ClassId) (σ : OS) : bC f t σ = bC g t σ := by unfold bC; rw [h 0 (by decide), h 1 (by decide), h 2 (by decide)]
theorem dC_congr {f g : Nat → Nat} (h : ∀ p, p < 4 → f p = g p) (t : Nat → ClassId) (σ : OS) : dC f t σ = dC g t σ := by unfold dC; rw [h 0 (by decide), h 1 (by decide), h 2 (by decide), h 3 (by decide)]
theorem oC_congr {f g : Nat → Nat} (h : ∀ p, p < 6 → f p = g p) (t : Nat → ClassId) (σ : OS) : oC f t σ = oC g t σ := by unfold oC; rw [h 0 (by decide), h 1 (by decide), h 2 (by decide), h 3 (by decide), h 4 (by decide), h 5 (by decide)]
theorem xC_congr {f g : Nat → Nat} (h : ∀ p, p < 2 → f p = g p) (t : Nat → ClassId) (σ : OS) : xC f t σ = xC g t σ := by unfold xC; rw [h 0 (by decide), h 1 (by decide)]
theorem nC_congr {f g : Nat → Nat} (h : ∀ p, p < 14 → f p = g p) (t : Nat → ClassId) (σ : NS) : nC f t σ = nC g t σ := by
  unfold nC
  rw [h 0 (by decide), h 1 (by decide), h 7 (by decide), h 11 (by decide), oC_congr (f := fun p => f (p + 1)) (g := fun p => g (p + 1)) (fun p hp => h _ (by omega)), dC_congr (f := fun p => f (p + 7)) (g := fun p => g (p + 7)) (fun p hp => h _ (by omega)), bC_congr (f := fun p => f (p + 11)) (g := fun p => g (p + 11)) (fun p hp => h _ (by omega))]
theorem sC_congr {f g : Nat → Nat} (h : ∀ p, p < 3 → f p = g p) (aa : gx_AA) (t : Nat → ClassId) (σ : OS × OS) : sC aa f t σ = sC aa g t σ := by
  unfold sC
  rw [h 0 (by decide), h 1 (by decide), xC_congr (f := fun p => f (p + 1)) (g := fun p => g (p + 1)) (fun p hp => h _ (by omega))]
/-- an address function put together -/
def gx_ap (a : Nat) (n : Nat) (f g : Nat → Nat) : Nat → Nat := fun p => if p = 0 then a else if p < n then f p else g p
def gx_cat (n : Nat) (f g : Nat → Nat) : Nat → Nat := fun p => if p < n then f p else g (p - n)
theorem gx_cat_lo {n p : Nat} {f g : Nat → Nat} (h : p < n) : gx_cat n f g p = f p := if_pos h
theorem gx_cat_hi {n p : Nat} {f g : Nat → Nat} : gx_cat n f g (p + n) = g p := by
  unfold gx_cat
  rw [if_neg (by omega), Nat.add_sub_cancel]
theorem pm_nv (b d o : va_W) (c : Nat × va_E) (rs : va_W) : (b ++ (d ++ (o ++ (c :: rs)))).Perm ((c :: (o ++ (d ++ b))) ++ rs) := by
  have h1 : (b ++ (d ++ (o ++ (c :: rs)))).Perm (d ++ (b ++ (o ++ (c :: rs)))) := pm_x _ _ _
  have h2 : (d ++ (b ++ (o ++ (c :: rs)))).Perm (d ++ (o ++ (b ++ (c :: rs)))) := List.Perm.append_left d (pm_x _ _ _)
  have h3 : (d ++ (o ++ (b ++ (c :: rs)))).Perm (o ++ (d ++ (b ++ (c :: rs)))) := pm_x _ _ _
  have h4 : (o ++ (d ++ (b ++ (c :: rs)))).Perm (o ++ (d ++ (c :: (b ++ rs)))) := List.Perm.append_left o (List.Perm.append_left d List.perm_middle)
  have h5 : (o ++ (d ++ (c :: (b ++ rs)))).Perm (o ++ (c :: (d ++ (b ++ rs)))) := List.Perm.append_left o List.perm_middle
  have h6 : (o ++ (c :: (d ++ (b ++ rs)))).Perm (c :: (o ++ (d ++ (b ++ rs)))) := List.perm_middle
  have h7 : c :: (o ++ (d ++ (b ++ rs))) = (c :: (o ++ (d ++ b))) ++ rs := by simp
  exact h7 ▸ ((((h1.trans h2).trans h3).trans h4).trans h5).trans h6

set_option maxRecDepth 100000 in
set_option maxHeartbeats 4000000 in
theorem cX2_init_ {D : va_G} {t : Nat → ClassId} {aa : gx_AA} {l : Launch} {rs : va_W} {a : Nat} {qo : OS} (ho : fX3_init = some qo) : gx_CN D t (gx_E0 aa) l yX2_init cX2_init 1 2 40 13 132 [.ref a] ((a, .inr (4, [.null, .null, .null, .int 0, .int 0, .int 0, .int 0])) :: rs) (fun w' => ∃ ad : Nat → Nat, ad 0 = a ∧ w' = nC ad t (os_0, qo, os_0, os_0) ++ rs) := by
  refine gx_intro_n (by decide) rfl (Nat.le_of_ble_eq_true rfl) (fun J gi hE => ?_)
  have g := gi.g
  show J 0 0 ((a, .inr (4, [.null, .null, .null, .int 0, .int 0, .int 0, .int 0])) :: rs) 0 [(0, .ref a)] []
  refine j_aload_n (pc := 0) g 0 dX2_init_0 rfl ?_
  refine j_obj (pc := 1) g q_l_X2_3 q_i_obj q_c_obj (Nat.le_of_ble_eq_true rfl) (Nat.le_of_ble_eq_true rfl) dX2_init_1 ?_
  refine j_aload_n (pc := 4) g 0 dX2_init_4 rfl ?_
  refine j_new (pc := 5) g in_X3 tyX3 tyX3_ok q_k_X2_9 q_m_X3 q_n_X3 (ci := 5) rfl (fs := [.null, .null, .null, .null, .null, .int 0]) (by decide) (Nat.le_of_ble_eq_true rfl) (Nat.le_of_ble_eq_true rfl) dX2_init_5 (fun q9 => ?_)
  refine j_dup (pc := 8) g dX2_init_8 rfl ?_
  refine j_callI (pc := 9) g (cX3_init_ (rs := (a, .inr (4, [.null, .null, .null, .int 0, .int 0, .int 0, .int 0])) :: rs) (a := q9) (q := qo) ho) rfl q_i_X3_init q_c_X3_init q_l_X2_11 q_n_X3 (by decide +kernel) ⟨Nat.le_of_ble_eq_true rfl, Nat.le_of_ble_eq_true rfl⟩ ⟨Nat.le_of_ble_eq_true rfl, Nat.le_of_ble_eq_true rfl⟩ (Nat.le_of_ble_eq_true rfl) (.refl _) dX2_init_9 (fun w9 hw9 => ?_)
  obtain ⟨a1, rfl, rfl⟩ := hw9
  refine j_putF (pc := 12) (w' := oC a1 t qo ++ ((a, .inr (4, [.ref (a1 0), .null, .null, .int 0, .int 0, .int 0, .int 0])) :: rs)) gi in_X2 6 rfl rfl 0 (by decide) q_f_X2_12 rfl tyX2 tyX2_ok nmX2 rfl rfl (ty := .object "CommandChain$Officers") (by decide +kernel) rfl rfl (Nat.le_of_ble_eq_true rfl) rfl dX2_init_12 ?_
  refine j_aload_n (pc := 15) g 0 dX2_init_15 rfl ?_
  refine j_new (pc := 16) g in_X4 tyX4 tyX4_ok q_k_X2_18 q_m_X4 q_n_X4 (ci := 6) rfl (fs := [.null, .null, .null, .int 0, .int 0]) (by decide) (Nat.le_of_ble_eq_true rfl) (Nat.le_of_ble_eq_true rfl) dX2_init_16 (fun q9 => ?_)
  refine j_dup (pc := 19) g dX2_init_19 rfl ?_
  refine j_callIn (pc := 20) g (cX4_init_ (rs := oC a1 t qo ++ ((a, .inr (4, [.ref (a1 0), .null, .null, .int 0, .int 0, .int 0, .int 0])) :: rs)) (a := q9) (q := os_0) rfl) rfl q_i_X4_init q_c_X4_init q_e_X2_20 q_n_X4 (by decide +kernel) ⟨Nat.le_of_ble_eq_true rfl, Nat.le_of_ble_eq_true rfl⟩ ⟨Nat.le_of_ble_eq_true rfl, Nat.le_of_ble_eq_true rfl⟩ (Nat.le_of_ble_eq_true rfl) (.refl _) dX2_init_20 (fun w9 hw9 => ?_)
  obtain ⟨a2, rfl, rfl⟩ := hw9
  refine j_putF (pc := 23) (w' := dC a2 t os_0 ++ (oC a1 t qo ++ ((a, .inr (4, [.ref (a1 0), .ref (a2 0), .null, .int 0, .int 0, .int 0, .int 0])) :: rs))) gi in_X2 10 rfl rfl 1 (by decide) q_f_X2_21 rfl tyX2 tyX2_ok nmX2 rfl rfl (ty := .object "CommandChain$Orders") (by decide +kernel) rfl rfl (Nat.le_of_ble_eq_true rfl) rfl dX2_init_23 ?_
  refine j_aload_n (pc := 26) g 0 dX2_init_26 rfl ?_
  refine j_new (pc := 27) g in_X0 tyX0 tyX0_ok q_k_X2_25 q_m_X0 q_n_X0 (ci := 2) rfl (fs := [.null, .null, .int 0]) (by decide) (Nat.le_of_ble_eq_true rfl) (Nat.le_of_ble_eq_true rfl) dX2_init_27 (fun q9 => ?_)
  refine j_dup (pc := 30) g dX2_init_30 rfl ?_
  refine j_callIn (pc := 31) g (cX0_init_ (rs := dC a2 t os_0 ++ (oC a1 t qo ++ ((a, .inr (4, [.ref (a1 0), .ref (a2 0), .null, .int 0, .int 0, .int 0, .int 0])) :: rs))) (a := q9) (q := os_0) rfl) rfl q_i_X0_init q_c_X0_init q_e_X2_27 q_n_X0 (by decide +kernel) ⟨Nat.le_of_ble_eq_true rfl, Nat.le_of_ble_eq_true rfl⟩ ⟨Nat.le_of_ble_eq_true rfl, Nat.le_of_ble_eq_true rfl⟩ (Nat.le_of_ble_eq_true rfl) (.refl _) dX2_init_31 (fun w9 hw9 => ?_)
  obtain ⟨a3, rfl, rfl⟩ := hw9
  refine j_putF (pc := 34) (w' := bC a3 t os_0 ++ (dC a2 t os_0 ++ (oC a1 t qo ++ ((a, .inr (4, [.ref (a1 0), .ref (a2 0), .ref (a3 0), .int 0, .int 0, .int 0, .int 0])) :: rs)))) gi in_X2 13 rfl rfl 2 (by decide) q_f_X2_28 rfl tyX2 tyX2_ok nmX2 rfl rfl (ty := .object "CommandChain$CodeBook") (by decide +kernel) rfl rfl (Nat.le_of_ble_eq_true rfl) rfl dX2_init_34 ?_
  refine hE _ _ _ _ dX2_init_37 (pm_nv (bC a3 t os_0) (dC a2 t os_0) (oC a1 t qo) (a, .inr (4, [.ref (a1 0), .ref (a2 0), .ref (a3 0), .int 0, .int 0, .int 0, .int 0])) rs) ⟨(gx_cat 1 (fun _ => a) (gx_cat 6 a1 (gx_cat 4 a2 a3))), rfl, ?_⟩
  have e1 : oC (fun p => (gx_cat 1 (fun _ => a) (gx_cat 6 a1 (gx_cat 4 a2 a3))) (p + 1)) t qo = oC a1 t qo := oC_congr (fun p hp => by rw [gx_cat_hi, gx_cat_lo hp]) t qo
  have e2 : dC (fun p => (gx_cat 1 (fun _ => a) (gx_cat 6 a1 (gx_cat 4 a2 a3))) (p + 7)) t os_0 = dC a2 t os_0 := dC_congr (fun p hp => by rw [show p + 7 = (p + 6) + 1 by omega, gx_cat_hi, gx_cat_hi, gx_cat_lo hp]) t os_0
  have e3 : bC (fun p => (gx_cat 1 (fun _ => a) (gx_cat 6 a1 (gx_cat 4 a2 a3))) (p + 11)) t os_0 = bC a3 t os_0 := bC_congr (fun p hp => by rw [show p + 11 = ((p + 4) + 6) + 1 by omega, gx_cat_hi, gx_cat_hi, gx_cat_hi]) t os_0
  unfold nC
  rw [e1, e2, e3]
  rfl
set_option maxRecDepth 100000 in
set_option maxHeartbeats 4000000 in
theorem cX5_init_ {D : va_G} {t : Nat → ClassId} {aa : gx_AA} {l : Launch} {rs : va_W} {a : Nat} : gx_CN D t (gx_E0 aa) l yX5_init cX5_init 1 2 40 2 62 [.ref a] ((a, .inr (7, [.null, .int 0, .null, .int 0, .int 0, .int 0])) :: rs) (fun w' => ∃ ad : Nat → Nat, ad 0 = a ∧ w' = sC aa ad t (os_0, os_0) ++ rs) := by
  refine gx_intro_n (by decide) rfl (Nat.le_of_ble_eq_true rfl) (fun J gi hE => ?_)
  have g := gi.g
  show J 0 0 ((a, .inr (7, [.null, .int 0, .null, .int 0, .int 0, .int 0])) :: rs) 0 [(0, .ref a)] []
  refine j_aload_n (pc := 0) g 0 dX5_init_0 rfl ?_
  refine j_obj (pc := 1) g q_l_X5_3 q_i_obj q_c_obj (Nat.le_of_ble_eq_true rfl) (Nat.le_of_ble_eq_true rfl) dX5_init_1 ?_
  refine j_aload_n (pc := 4) g 0 dX5_init_4 rfl ?_
  refine j_new (pc := 5) g in_X6 tyX6 tyX6_ok q_k_X5_9 q_m_X6 q_n_X6 (ci := 8) rfl (fs := [.null, .int 0]) (by decide) (Nat.le_of_ble_eq_true rfl) (Nat.le_of_ble_eq_true rfl) dX5_init_5 (fun q9 => ?_)
  refine j_dup (pc := 8) g dX5_init_8 rfl ?_
  refine j_callIn (pc := 9) g (cX6_init_ (rs := (a, .inr (7, [.null, .int 0, .null, .int 0, .int 0, .int 0])) :: rs) (a := q9) (q := os_0) rfl) rfl q_i_X6_init q_c_X6_init q_e_X5_11 q_n_X6 (by decide +kernel) ⟨Nat.le_of_ble_eq_true rfl, Nat.le_of_ble_eq_true rfl⟩ ⟨Nat.le_of_ble_eq_true rfl, Nat.le_of_ble_eq_true rfl⟩ (Nat.le_of_ble_eq_true rfl) (.refl _) dX5_init_9 (fun w9 hw9 => ?_)
  obtain ⟨a1, rfl, rfl⟩ := hw9
  refine j_putF (pc := 12) (w' := xC a1 t os_0 ++ ((a, .inr (7, [.ref (a1 0), .int 0, .null, .int 0, .int 0, .int 0])) :: rs)) gi in_X5 2 rfl rfl 0 (by decide) q_f_X5_12 rfl tyX5 tyX5_ok nmX5 rfl rfl (ty := .object "CommandChain$Text") (by decide +kernel) rfl rfl (Nat.le_of_ble_eq_true rfl) rfl dX5_init_12 ?_
  refine hE _ _ _ _ dX5_init_15 (List.perm_middle (l₁ := xC a1 t os_0) (a := (a, .inr (7, [.ref (a1 0), .int 0, .null, .int 0, .int 0, .int 0]))) (l₂ := rs)) ⟨(gx_cat 1 (fun _ => a) a1), rfl, ?_⟩
  have e1 : xC (fun p => (gx_cat 1 (fun _ => a) a1) (p + 1)) t os_0 = xC a1 t os_0 := xC_congr (fun p hp => by rw [gx_cat_hi]) t os_0
  unfold sC
  rw [e1]
  rfl
