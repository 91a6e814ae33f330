/-! a string that the law makes, and who reads it: length, charAt, runs -/
def gx_ES (aa : gx_AA) (a d : Nat) (cs : List Nat) : gx_E := fun A U H => gx_E0 aa A U H ∧ va_O "java/lang/String" a A U H ∧ va_OF "java/lang/String" "coder" "B" (.int 0) a A U H ∧ va_OF "java/lang/String" "value" "[B" (.ref d) a A U H ∧ va_T .byte d cs.length (fun j => .int (nI (cs.getD j 0))) A U H
theorem gx_ES_ok (aa : gx_AA) (a d : Nat) (cs : List Nat) : gx_Ek (gx_ES aa a d cs) := by
  obtain ⟨k1, k2, k3⟩ := gx_E0_ok aa
  refine ⟨fun A u U H hv h => ?_, fun A U H H1 h hq => ?_, fun A B U H hAB h => ?_⟩
  · obtain ⟨h0, h1, h2, h3, h4⟩ := h
    have ha := gx_al hv
    exact ⟨k1 A u U H hv h0, h1.moved ha, h2.moved ha, h3.moved ha, h4.moved ha⟩
  · obtain ⟨h0, h1, h2, h3, h4⟩ := h
    exact ⟨k2 A U H H1 h0 hq, h1.kept hq, h2.kept hq, h3.kept hq, h4.kept hq⟩
  · obtain ⟨h0, h1, h2, h3, h4⟩ := h
    exact ⟨k3 A B U H hAB h0, h1.narrow hAB, h2.narrow hAB, h3.narrow hAB, h4.narrow hAB⟩
theorem gx_C_es {D : va_G} {t : Nat → ClassId} {aa : gx_AA} {l : Launch} {y : MethodName} {b : ByteArray} {nL : Nat} {ret : Option FieldType} {fr lo : Nat} {av : List Value} {w w' : va_W} {r : Option Value} {a d : Nat} {cs : List Nat} (h : gx_C D t (gx_E0 aa) l y b nL ret fr lo av w w' r) : gx_C D t (gx_ES aa a d cs) l y b nL ret fr lo av w w' r := by
  intro sz p e ha hc hk s m args below hf happ hP ht
  obtain ⟨rfl, h1, h2, h3, h4, -, h6⟩ := hP
  exact h sz p e ha hc hk s m _ below hf happ ⟨rfl, h1, h2, h3, h4, gx_E0_ok aa, h6.1⟩ ht
theorem gx_CH_es {D : va_G} {t : Nat → ClassId} {aa : gx_AA} {l : Launch} {y : MethodName} {b : ByteArray} {nL : Nat} {ret : Option FieldType} {hh : List (Nat × Nat × Nat × Nat)} {fr lo mc ms : Nat} {av : List Value} {w w' : va_W} {r : Option Value} {a d : Nat} {cs : List Nat} (h : gx_CH D t (gx_E0 aa) l y b nL ret hh fr lo mc ms av w w' r) : gx_CH D t (gx_ES aa a d cs) l y b nL ret hh fr lo mc ms av w w' r := by
  intro sz p e ha hc hk s m args below hf happ hP ht
  obtain ⟨rfl, h1, h2, h3, h4, -, h6⟩ := hP
  exact h sz p e ha hc hk s m _ below hf happ ⟨rfl, h1, h2, h3, h4, gx_E0_ok aa, h6.1⟩ ht
section ES
variable {aa : gx_AA} {a d : Nat} {cs : List Nat}
theorem es_cs : ∀ (A : Nat → Prop) (U : State) (H : Heap), gx_ES aa a d cs A U H → va_Z "java/lang/String" "COMPACT_STRINGS" "Z" (.int 1) A U H := fun A U H h => e_cs A U H h.1
theorem es_so : ∀ (A : Nat → Prop) (U : State) (H : Heap), gx_ES aa a d cs A U H → va_O "java/lang/String" a A U H := fun A U H h => h.2.1
theorem es_sc : ∀ (A : Nat → Prop) (U : State) (H : Heap), gx_ES aa a d cs A U H → va_OF "java/lang/String" "coder" "B" (.int 0) a A U H := fun A U H h => h.2.2.1
theorem es_sv : ∀ (A : Nat → Prop) (U : State) (H : Heap), gx_ES aa a d cs A U H → va_OF "java/lang/String" "value" "[B" (.ref d) a A U H := fun A U H h => h.2.2.2.1
theorem es_st : ∀ (A : Nat → Prop) (U : State) (H : Heap), gx_ES aa a d cs A U H → va_T .byte d cs.length (fun j => .int (nI (cs.getD j 0))) A U H := fun A U H h => h.2.2.2.2
variable {D : va_G} {t : Nat → ClassId} {l : Launch} {w : va_W}
set_option maxRecDepth 100000 in
set_option maxHeartbeats 4000000 in
theorem ce_coder : gx_C D t (gx_ES aa a d cs) l yJ0_coder_7d493 cJ0_coder_7d493 1 (some .byte) 0 0 [.ref a] w w (some (.int (0))) := by
  refine gx_intro_i (by decide) (Nat.le_of_ble_eq_true rfl) (fun J g hE => ?_)
  refine j_gets (pc := 0) g es_cs q_f_J0_38 rfl dJ0_coder_7d493_0 ?_
  refine j_if_eq (tgt := 13) (pc := 3) g dJ0_coder_7d493_3 (by decide) (fun h => absurd h (by decide)) (fun _ => ?_)
  refine j_aload_n (pc := 6) g 0 dJ0_coder_7d493_6 rfl ?_
  refine j_getO (pc := 7) g es_sc q_f_J0_15 rfl dJ0_coder_7d493_7 ?_
  refine j_goto (tgt := 14) (pc := 10) g dJ0_coder_7d493_10 (by decide) ?_
  exact hE _ _ dJ0_coder_7d493_14 rfl
set_option maxRecDepth 100000 in
set_option maxHeartbeats 4000000 in
theorem ce_isLatin1 : gx_C D t (gx_ES aa a d cs) l yJ0_isLatin1_aae02 cJ0_isLatin1_aae02 1 (some .boolean) 0 0 [.ref a] w w (some (.int (1))) := by
  refine gx_intro_i (by decide) (Nat.le_of_ble_eq_true rfl) (fun J g hE => ?_)
  refine j_gets (pc := 0) g es_cs q_f_J0_38 rfl dJ0_isLatin1_aae02_0 ?_
  refine j_if_eq (tgt := 17) (pc := 3) g dJ0_isLatin1_aae02_3 (by decide) (fun h => absurd h (by decide)) (fun _ => ?_)
  refine j_aload_n (pc := 6) g 0 dJ0_isLatin1_aae02_6 rfl ?_
  refine j_getO (pc := 7) g es_sc q_f_J0_15 rfl dJ0_isLatin1_aae02_7 ?_
  refine j_if_ne (tgt := 17) (pc := 10) g dJ0_isLatin1_aae02_10 (by decide) (fun h => absurd rfl h) (fun _ => ?_)
  refine j_iconst (v := 1) (pc := 13) g dJ0_isLatin1_aae02_13 (by decide) ?_
  refine j_goto (tgt := 18) (pc := 14) g dJ0_isLatin1_aae02_14 (by decide) ?_
  exact hE _ _ dJ0_isLatin1_aae02_18 rfl
theorem es_len_shr (n : Nat) : (Int32.ofNat n) >>> ((0 : Int32) &&& 31) = nI n := by
  have : ((0 : Int32) &&& 31) = 0 := by decide
  rw [this]
  exact Int32.toBitVec_inj.mp (by simp [nI])
theorem es_chr_c : ∀ c, c < 128 → ((nI c &&& 255).toUInt32 % 65536).toInt32 = nI c := by decide
theorem es_chr_n : ∀ c, c < 128 → vp_nar .char (nI c) = nI c := by decide
theorem es_get (hcs : ∀ c ∈ cs, c < 128) (j : Nat) : cs.getD j 0 < 128 := by
  rw [List.getD_eq_getElem?_getD]
  cases h : cs[j]? with
  | none => decide
  | some c => exact hcs c (List.mem_of_getElem? h)
set_option maxRecDepth 100000 in
set_option maxHeartbeats 4000000 in
theorem ce_strlen : gx_C D t (gx_ES aa a d cs) l yJ0_length_8abf5 cJ0_length_8abf5 1 (some .int) 1 20 [.ref a] w w (some (.int (nI cs.length))) := by
  refine gx_intro_i (by decide) (Nat.le_of_ble_eq_true rfl) (fun J g hE => ?_)
  refine j_aload_n (pc := 0) g 0 dJ0_length_8abf5_0 rfl ?_
  refine j_getO (pc := 1) g es_sv q_f_J0_9 rfl dJ0_length_8abf5_1 ?_
  refine j_tlen (pc := 4) g es_st dJ0_length_8abf5_4 ?_
  refine j_aload_n (pc := 5) g 0 dJ0_length_8abf5_5 rfl ?_
  refine j_callVEi (pc := 6) (na := 0) (As := []) (rest := [.int (Int32.ofNat cs.length)]) g ce_coder es_so q_i_J0_coder_7d493 q_s_J0_coder_7d493 q_c_J0_coder_7d493 q_l_J0_335 q_n_J0 (by decide +kernel) rfl ⟨Nat.le_of_ble_eq_true rfl, Nat.le_of_ble_eq_true rfl⟩ ⟨Nat.zero_le _, Nat.zero_le _⟩ (Nat.le_of_ble_eq_true rfl) (.refl _) (.refl _) dJ0_length_8abf5_6 ?_ rfl
  refine j_ishr (pc := 9) g dJ0_length_8abf5_9 ?_
  rw [es_len_shr]
  exact hE _ _ dJ0_length_8abf5_10 rfl
set_option maxRecDepth 100000 in
set_option maxHeartbeats 4000000 in
theorem ce_lc (hcs : ∀ c ∈ cs, c < 128) (hlen : cs.length < 2 ^ 31) {x : Int32} (hin : gx_in x cs.length) : gx_C D t (gx_ES aa a d cs) l yJ1_charAt_3b067 cJ1_charAt_3b067 2 (some .char) 2 43 [.ref d, .int x] w w (some (.int (nI (cs.getD x.toNatClampNeg 0)))) := by
  obtain ⟨h0, h1, h2⟩ := gx_in_lt hin hlen
  refine gx_intro_i (by decide) (Nat.le_of_ble_eq_true rfl) (fun J g hE => ?_)
  refine j_iload_n (pc := 0) g 1 dJ1_charAt_3b067_0 rfl ?_
  refine j_aload_n (pc := 1) g 0 dJ1_charAt_3b067_1 rfl ?_
  refine j_tlen (pc := 2) g es_st dJ1_charAt_3b067_2 ?_
  refine j_callSv (pc := 3) (na := 2) (As := [.int x, .int (Int32.ofNat cs.length)]) (rest := []) g (gx_C_es (c_ck h0 h1)) q_t_J0_checkIndex_df160 q_c_J0_checkIndex_df160 q_l_J1_9 q_n_J0 (by decide +kernel) rfl ⟨Nat.le_of_ble_eq_true rfl, Nat.le_of_ble_eq_true rfl⟩ ⟨Nat.zero_le _, Nat.zero_le _⟩ (Nat.le_of_ble_eq_true rfl) (.refl _) (.refl _) dJ1_charAt_3b067_3 ?_ rfl
  refine j_aload_n (pc := 6) g 0 dJ1_charAt_3b067_6 rfl ?_
  refine j_iload_n (pc := 7) g 1 dJ1_charAt_3b067_7 rfl ?_
  refine j_tb (pc := 8) g es_st hin rfl dJ1_charAt_3b067_8 ?_
  refine j_sipush (v := 255) (pc := 9) g dJ1_charAt_3b067_9 (by decide) ?_
  refine j_iand (pc := 12) g dJ1_charAt_3b067_12 ?_
  refine j_i2c (pc := 13) g dJ1_charAt_3b067_13 ?_
  rw [es_chr_c _ (es_get hcs _)]
  exact hE _ _ dJ1_charAt_3b067_14 (gx_narC (es_chr_n _ (es_get hcs _)))
set_option maxRecDepth 100000 in
set_option maxHeartbeats 4000000 in
theorem ce_strchr (hcs : ∀ c ∈ cs, c < 128) (hlen : cs.length < 2 ^ 31) {x : Int32} (hin : gx_in x cs.length) : gx_C D t (gx_ES aa a d cs) l yJ0_charAt_5068e cJ0_charAt_5068e 2 (some .char) 3 64 [.ref a, .int x] w w (some (.int (nI (cs.getD x.toNatClampNeg 0)))) := by
  refine gx_intro_i (by decide) (Nat.le_of_ble_eq_true rfl) (fun J g hE => ?_)
  refine j_aload_n (pc := 0) g 0 dJ0_charAt_5068e_0 rfl ?_
  refine j_callVEi (pc := 1) (na := 0) (As := []) (rest := []) g ce_isLatin1 es_so q_i_J0_isLatin1_aae02 q_s_J0_isLatin1_aae02 q_c_J0_isLatin1_aae02 q_l_J0_492 q_n_J0 (by decide +kernel) rfl ⟨Nat.le_of_ble_eq_true rfl, Nat.le_of_ble_eq_true rfl⟩ ⟨Nat.zero_le _, Nat.zero_le _⟩ (Nat.le_of_ble_eq_true rfl) (.refl _) (.refl _) dJ0_charAt_5068e_1 ?_ rfl
  refine j_if_eq (tgt := 16) (pc := 4) g dJ0_charAt_5068e_4 (by decide) (fun h => absurd h (by decide)) (fun _ => ?_)
  refine j_aload_n (pc := 7) g 0 dJ0_charAt_5068e_7 rfl ?_
  refine j_getO (pc := 8) g es_sv q_f_J0_9 rfl dJ0_charAt_5068e_8 ?_
  refine j_iload_n (pc := 11) g 1 dJ0_charAt_5068e_11 rfl ?_
  refine j_callSi (pc := 12) (na := 2) (As := [.ref d, .int x]) (rest := []) g (ce_lc hcs hlen hin) q_t_J1_charAt_3b067 q_c_J1_charAt_3b067 q_l_J0_495 q_n_J1 (by decide +kernel) rfl ⟨Nat.le_of_ble_eq_true rfl, Nat.le_of_ble_eq_true rfl⟩ ⟨Nat.zero_le _, Nat.zero_le _⟩ (Nat.le_of_ble_eq_true rfl) (.refl _) (.refl _) dJ0_charAt_5068e_12 ?_ rfl
  exact hE _ _ dJ0_charAt_5068e_15 (gx_narC (es_chr_n _ (es_get hcs _)))
end ES
theorem q_l_L_153 : Cond.methodLink RL 153 yJ0_length_8abf5 ∈ lw_all := lw_in 1018 (by decide +kernel) (by decide +kernel)
theorem q_l_L_158 : Cond.methodLink RL 158 yJ0_charAt_5068e ∈ lw_all := lw_in 1019 (by decide +kernel) (by decide +kernel)
theorem q_l_L_161 : Cond.methodLink RL 161 yL_feed ∈ lw_all := lw_in 1034 (by decide +kernel) (by decide +kernel)
theorem q_l_L_164 : Cond.methodLink RL 164 yL_runCommands ∈ lw_all := lw_in 1046 (by decide +kernel) (by decide +kernel)
theorem q_l_L_288 : Cond.methodLink RL 288 yL_runs ∈ lw_all := lw_in 1015 (by decide +kernel) (by decide +kernel)
theorem q_t_L_runs : Cond.static yL_runs ∈ lw_all := lw_in 1016 (by decide +kernel) (by decide +kernel)
theorem q_c_L_runs : Cond.code yL_runs cL_runs 4 (some .int) ∈ lw_all := lw_in 1017 (by decide +kernel) (by decide +kernel)
theorem q_t_L_feed : Cond.static yL_feed ∈ lw_all := lw_in 1035 (by decide +kernel) (by decide +kernel)
theorem q_t_L_runCommands : Cond.static yL_runCommands ∈ lw_all := lw_in 1047 (by decide +kernel) (by decide +kernel)
set_option maxRecDepth 100000 in
set_option maxHeartbeats 8000000 in
theorem tL_runs_2 {D : va_G} {t : Nat → ClassId} {aa : gx_AA} {l : Launch} {J : gx_J} {ad : Nat → Nat} {rs : va_W} {a d : Nat} {cs : List Nat} {q : Int32 × CS} (hst : l.stackTraces = false) (hcs : ∀ c ∈ cs, c < 128) (hlen : cs.length < 2 ^ 31) (g : gx_G D t (gx_ES aa a d cs) l ({ frames := 25, cells := 50, slots := 300, locals := 560 }) cL_runs RL 4 J) (hE : ∀ (pc : Nat) (L : List (Nat × Value)), decode cL_runs pc = .ok (.ireturn, 1) → narrow .int (.int q.1) = .int q.1 → J 50 (6 * 50) (kW aa ad t q.2 rs) pc L [.int q.1]) :
    ∀ (T pre : List Nat) (σ : CS) (κ : Nat), cs = pre ++ T → κ + T.length + 1 ≤ 50 → fL_runs σ T = some q → J κ (6 * κ) (kW aa ad t σ rs) 2 [(2, .int (nI pre.length)), (1, .ref a), (0, .ref (ad 0))] [] := by
  intro T
  induction T with
  | nil =>
    intro pre σ κ hc hκ hf
    rw [List.length_nil] at hκ
    rw [List.append_nil] at hc
    subst hc
    have hf2 : fL_runCommands σ = some q := hf
    refine j_iload_n (pc := 2) g 0 dL_runs_2 rfl ?_
    refine j_aload_n (pc := 3) g 1 dL_runs_3 rfl ?_
    refine j_wid g (k' := 49) (n' := 6 * 49) (by omega) (by omega) ?_
    refine j_callVEi (pc := 4) (na := 0) (As := []) (rest := [.int (nI cs.length)]) g ce_strlen es_so q_i_J0_length_8abf5 q_s_J0_length_8abf5 q_c_J0_length_8abf5 q_l_L_153 q_n_J0 (by decide +kernel) rfl ⟨Nat.le_of_ble_eq_true rfl, Nat.le_of_ble_eq_true rfl⟩ ⟨Nat.le_of_ble_eq_true rfl, Nat.le_of_ble_eq_true rfl⟩ (Nat.le_of_ble_eq_true rfl) (.refl _) (.refl _) dL_runs_4 ?_ rfl
    refine j_icmp_ge (tgt := 26) (pc := 7) g dL_runs_7 (by decide) (fun _ => ?_) (fun c => absurd (nI_le (Nat.le_refl _) hlen) c)
    refine j_aload_n (pc := 26) g 2 dL_runs_26 rfl ?_
    refine j_callH (pc := 27) (na := 1) (As := [.ref (ad 0)]) (rest := []) g (gx_CH_es (hL_runCommands_ (rs := rs) hst hf2)) q_t_L_runCommands q_w_L_runCommands q_l_L_164 q_n_L (by decide +kernel) (by decide +kernel) rfl ⟨Nat.le_of_ble_eq_true rfl, Nat.le_of_ble_eq_true rfl⟩ ⟨Nat.le_of_ble_eq_true rfl, Nat.le_of_ble_eq_true rfl⟩ (Nat.le_of_ble_eq_true rfl) (.refl _) (.refl _) dL_runs_27 ?_ rfl
    exact hE _ _ dL_runs_30 rfl
  | cons c T ih =>
    intro pre σ κ hc hκ hf
    rw [List.length_cons] at hκ
    have hl1 : pre.length < cs.length := by rw [hc]; simp
    obtain ⟨s1, hf1, hf2⟩ := gx_bs hf
    obtain ⟨r, hr, hf3⟩ := gx_bs hf1
    have hchr : cs.getD (nI pre.length).toNatClampNeg 0 = c := by
      rw [nI_clamp (Nat.lt_trans hl1 hlen), hc, List.getD_eq_getElem?_getD, List.getElem?_append_right (Nat.le_refl _), Nat.sub_self]; rfl
    refine j_iload_n (pc := 2) g 0 dL_runs_2 rfl ?_
    refine j_aload_n (pc := 3) g 1 dL_runs_3 rfl ?_
    refine j_callVEi (pc := 4) (na := 0) (As := []) (rest := [.int (nI pre.length)]) g ce_strlen es_so q_i_J0_length_8abf5 q_s_J0_length_8abf5 q_c_J0_length_8abf5 q_l_L_153 q_n_J0 (by decide +kernel) rfl ⟨Nat.le_of_ble_eq_true rfl, Nat.le_of_ble_eq_true rfl⟩ ⟨(by show κ ≤ 50; omega), (by show 6 * κ ≤ 300; omega)⟩ (Nat.le_of_ble_eq_true rfl) (.refl _) (.refl _) dL_runs_4 ?_ rfl
    refine j_icmp_ge (tgt := 26) (pc := 7) g dL_runs_7 (by decide) (fun cc => absurd cc (nI_ge hl1 hlen)) (fun _ => ?_)
    refine j_aload_n (pc := 10) g 2 dL_runs_10 rfl ?_
    refine j_aload_n (pc := 11) g 1 dL_runs_11 rfl ?_
    refine j_iload_n (pc := 12) g 0 dL_runs_12 rfl ?_
    refine j_callVEi (pc := 13) (na := 1) (As := [.int (nI pre.length)]) (rest := [.ref (ad 0)]) g (ce_strchr hcs hlen (nI_in hl1 hlen)) es_so q_i_J0_charAt_5068e q_s_J0_charAt_5068e q_c_J0_charAt_5068e q_l_L_158 q_n_J0 (by decide +kernel) rfl ⟨Nat.le_of_ble_eq_true rfl, Nat.le_of_ble_eq_true rfl⟩ ⟨(by show κ ≤ 50; omega), (by show 6 * κ ≤ 300; omega)⟩ (Nat.le_of_ble_eq_true rfl) (.refl _) (.refl _) dL_runs_13 ?_ rfl
    rw [hchr]
    refine j_callH (pc := 16) (na := 2) (As := [.ref (ad 0), .int (nI c)]) (rest := []) g (gx_CH_es (hL_feed_ (rs := rs) hst hr)) q_t_L_feed q_w_L_feed q_l_L_161 q_n_L (by decide +kernel) (by decide +kernel) rfl ⟨Nat.le_of_ble_eq_true rfl, Nat.le_of_ble_eq_true rfl⟩ ⟨(by show κ + 1 ≤ 50; omega), (by show 6 * κ + 6 ≤ 300; omega)⟩ (Nat.le_of_ble_eq_true rfl) (.refl _) (.refl _) dL_runs_16 ?_ rfl
    refine j_istore_n (i := 3) (L' := [(3, .int r.1), (2, .int (nI pre.length)), (1, .ref a), (0, .ref (ad 0))]) (pc := 19) g dL_runs_19 rfl (Nat.le_of_ble_eq_true rfl) rfl ?_
    refine j_iinc (v := nI (pre.length + 1)) (L' := [(2, .int (nI (pre.length + 1))), (3, .int r.1), (1, .ref a), (0, .ref (ad 0))]) (pc := 20) g 1 dL_runs_20 rfl (nI_1 _) (Nat.le_of_ble_eq_true rfl) rfl ?_
    refine j_goto (tgt := 2) (pc := 23) g dL_runs_23 (by decide) ?_
    refine j_sub (pc := 2) g (L' := [(2, .int (nI (pre.length + 1))), (1, .ref a), (0, .ref (ad 0))]) [0, 2, 3] rfl ?_
    have e : pre.length + 1 = (pre ++ [c]).length := by simp
    rw [e]
    refine ih (pre ++ [c]) r.2 (κ + 1) (by rw [hc]; simp) (by omega) ?_
    show gx_b (fL_feeds r.2 T) (fun s => fL_runCommands s) = some q
    rw [hf3]
    exact hf2
set_option maxRecDepth 100000 in
theorem cL_runs_ {D : va_G} {t : Nat → ClassId} {aa : gx_AA} {l : Launch} {ad : Nat → Nat} {rs : va_W} {a d : Nat} {cs : List Nat} {σ : CS} {q : Int32 × CS} (hst : l.stackTraces = false) (hcs : ∀ c ∈ cs, c < 128) (hlen : cs.length < 49) (hf : fL_runs σ cs = some q) :
    gx_CM D t (gx_ES aa a d cs) l yL_runs cL_runs 4 (some .int) 25 560 50 (6 * 50) [.ref (ad 0), .ref a] (kW aa ad t σ rs) (kW aa ad t q.2 rs) (some (.int q.1)) := by
  refine gx_intro_mi (by decide) (Nat.le_of_ble_eq_true rfl) (fun J g0 hE => ?_)
  have g : gx_G D t (gx_ES aa a d cs) l ({ frames := 25, cells := 50, slots := 300, locals := 560 }) cL_runs RL 4 J := g0
  show J 0 (6 * 0) (kW aa ad t σ rs) 0 [(0, .ref (ad 0)), (1, .ref a)] []
  refine j_iconst (v := nI 0) (pc := 0) g dL_runs_0 (by decide) ?_
  refine j_istore_n (i := 2) (L' := [(2, .int (nI 0)), (0, .ref (ad 0)), (1, .ref a)]) (pc := 1) g dL_runs_1 rfl (Nat.le_of_ble_eq_true rfl) rfl ?_
  refine j_sub (pc := 2) g (L' := [(2, .int (nI 0)), (1, .ref a), (0, .ref (ad 0))]) [0, 2, 1] rfl ?_
  exact tL_runs_2 hst hcs (by omega) g hE cs [] σ 0 rfl (by omega) hf
