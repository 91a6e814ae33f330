theorem z_n1 : ∀ v, v < 101 → (-(nI v) ≤ (-10 : Int32) ↔ 10 ≤ v) := by decide
theorem z_n2 : ∀ v, v < 101 → (-(nI v) ≤ (-100 : Int32) ↔ 100 ≤ v) := by decide
theorem z_n3 : ∀ v, v < 101 → ¬ -(nI v) ≤ (-1000 : Int32) := by decide
theorem z_n4 : ∀ v, v < 101 → ¬ (nI v) < 0 := by decide
theorem z_n5 : ∀ v, v < 100 → (-100 : Int32) < -(nI v) := by decide
theorem z_n6 : ∀ v, v < 101 → ((-9 : Int32) ≤ -(nI v) ↔ v < 10) := by decide
theorem z_n7 : ∀ v, v < 101 → -(-(nI v)) = nI v := by decide
theorem z_n8 : ∀ p, p < 40 → 1 ≤ p → nI p + Int32.ofInt (-1) = nI (p - 1) := by decide
theorem tx_len (v : Nat) : (tx_d v).length = if v < 10 then 1 else if v < 100 then 2 else 3 := by
  unfold tx_d
  by_cases h : v < 10
  · rw [if_pos h, if_pos h]; rfl
  · rw [if_neg h, if_neg h]
    by_cases h2 : v < 100
    · rw [if_pos h2, if_pos h2]; rfl
    · rw [if_neg h2, if_neg h2]; rfl
section SB6
variable {D : va_G} {t : Nat → ClassId} {aa : gx_AA} {E : gx_E} {l : Launch} {b da : Nat} {ml : Int32} {n M : Nat} {f : Nat → Int32} {rs : va_W} {cs : List Nat}
set_option maxRecDepth 100000 in
set_option maxHeartbeats 4000000 in
theorem z_stringSize {w : va_W} {v : Nat} (hv : v < 101) : gx_CP D t E l yJ6_stringSize_0f7a4 cJ6_stringSize_0f7a4 4 (some .int) 0 0 0 0 [.int (nI v)] w (fun r w' => r = some (.int (nI (tx_d v).length)) ∧ w' = w) := by
  refine gx_intro_pi (by decide) (Nat.le_of_ble_eq_true rfl) (fun J g hE => ?_)
  refine j_iconst (v := 1) (pc := 0) g dJ6_stringSize_0f7a4_0 (by decide) ?_
  refine j_istore_n (i := 1) (L' := [(1, .int 1), (0, .int (nI v))]) (pc := 1) g dJ6_stringSize_0f7a4_1 rfl (Nat.le_of_ble_eq_true rfl) rfl ?_
  refine j_iload_n (pc := 2) g 1 dJ6_stringSize_0f7a4_2 rfl ?_
  refine j_if_lt (tgt := 11) (pc := 3) g dJ6_stringSize_0f7a4_3 (by decide) (fun h => absurd h (z_n4 v hv)) (fun _ => ?_)
  refine j_iconst (v := 0) (pc := 6) g dJ6_stringSize_0f7a4_6 (by decide) ?_
  refine j_istore_n (i := 1) (L' := [(1, .int 0), (0, .int (nI v))]) (pc := 7) g dJ6_stringSize_0f7a4_7 rfl (Nat.le_of_ble_eq_true rfl) rfl ?_
  refine j_iload_n (pc := 8) g 1 dJ6_stringSize_0f7a4_8 rfl ?_
  refine j_ineg (pc := 9) g dJ6_stringSize_0f7a4_9 ?_
  refine j_istore_n (i := 0) (L' := [(0, .int (-(nI v))), (1, .int 0)]) (pc := 10) g dJ6_stringSize_0f7a4_10 rfl (Nat.le_of_ble_eq_true rfl) rfl ?_
  refine j_bipush (v := -10) (pc := 11) g dJ6_stringSize_0f7a4_11 (by decide) ?_
  refine j_istore_n (i := 2) (L' := [(2, .int (-10)), (0, .int (-(nI v))), (1, .int 0)]) (pc := 13) g dJ6_stringSize_0f7a4_13 rfl (Nat.le_of_ble_eq_true rfl) rfl ?_
  refine j_iconst (v := 1) (pc := 14) g dJ6_stringSize_0f7a4_14 (by decide) ?_
  refine j_istore_n (i := 3) (L' := [(3, .int 1), (2, .int (-10)), (0, .int (-(nI v))), (1, .int 0)]) (pc := 15) g dJ6_stringSize_0f7a4_15 rfl (Nat.le_of_ble_eq_true rfl) rfl ?_
  have step : ∀ (i i' p p' : Int32), ¬ (10 : Int32) ≤ i → i + Int32.ofInt 1 = i' → (10 : Int32) * p = p' → (¬ -(nI v) ≤ p → i = nI (tx_d v).length) → (-(nI v) ≤ p → J 0 0 w 16 [(3, .int i'), (2, .int p'), (0, .int (-(nI v))), (1, .int 0)] []) → J 0 0 w 16 [(3, .int i), (2, .int p), (0, .int (-(nI v))), (1, .int 0)] [] := by
    intro i i' p p' h1 h2 h3 h4 kk
    refine j_iload_n (pc := 16) g 0 dJ6_stringSize_0f7a4_16 rfl ?_
    refine j_bipush (v := 10) (pc := 17) g dJ6_stringSize_0f7a4_17 (by decide) ?_
    refine j_icmp_ge (tgt := 42) (pc := 19) g dJ6_stringSize_0f7a4_19 (by decide) (fun h => absurd h h1) (fun _ => ?_)
    refine j_iload_n (pc := 22) g 2 dJ6_stringSize_0f7a4_22 rfl ?_
    refine j_iload_n (pc := 23) g 1 dJ6_stringSize_0f7a4_23 rfl ?_
    refine j_icmp_le (tgt := 31) (pc := 24) g dJ6_stringSize_0f7a4_24 (by decide) (fun h => ?_) (fun h => ?_)
    · refine j_bipush (v := 10) (pc := 31) g dJ6_stringSize_0f7a4_31 (by decide) ?_
      refine j_iload_n (pc := 33) g 1 dJ6_stringSize_0f7a4_33 rfl ?_
      refine j_imul (pc := 34) g dJ6_stringSize_0f7a4_34 ?_
      rw [h3]
      refine j_istore_n (i := 2) (L' := [(2, .int p'), (3, .int i), (0, .int (-(nI v))), (1, .int 0)]) (pc := 35) g dJ6_stringSize_0f7a4_35 rfl (Nat.le_of_ble_eq_true rfl) rfl ?_
      refine j_iinc (v := i') (L' := [(3, .int i'), (2, .int p'), (0, .int (-(nI v))), (1, .int 0)]) (pc := 36) g 1 dJ6_stringSize_0f7a4_36 rfl h2 (Nat.le_of_ble_eq_true rfl) rfl ?_
      refine j_goto (tgt := 16) (pc := 39) g dJ6_stringSize_0f7a4_39 (by decide) ?_
      exact kk h
    · refine j_iload_n (pc := 27) g 0 dJ6_stringSize_0f7a4_27 rfl ?_
      refine j_iload_n (pc := 28) g 3 dJ6_stringSize_0f7a4_28 rfl ?_
      refine j_iadd (pc := 29) g dJ6_stringSize_0f7a4_29 ?_
      rw [Int32.add_zero, h4 h]
      exact hE _ _ _ _ _ dJ6_stringSize_0f7a4_30 rfl (.refl _) ⟨rfl, rfl⟩
  refine step 1 2 (-10) (-100) (by decide) (by decide) (by decide) (fun h => ?_) (fun h1 => ?_)
  · rw [z_n1 v hv] at h
    rw [tx_len, if_pos (by omega)]; rfl
  rw [z_n1 v hv] at h1
  refine step 2 3 (-100) (-1000) (by decide) (by decide) (by decide) (fun h => ?_) (fun h2 => ?_)
  · rw [z_n2 v hv] at h
    rw [tx_len, if_neg (by omega), if_pos (by omega)]; rfl
  rw [z_n2 v hv] at h2
  refine step 3 4 (-1000) (-10000) (by decide) (by decide) (by decide) (fun h => ?_) (fun h3 => absurd h3 (z_n3 v hv))
  rw [tx_len, if_neg (by omega), if_neg (by omega)]; rfl
theorem e_d1 (h0 : zE aa E) : ∀ (A : Nat → Prop) (U : State) (H : Heap), E A U H → va_Z "java/lang/Integer" "DigitOnes" "[B" (.ref (aa.2.2.2.1 5001)) A U H := fun A U H h => by
  obtain ⟨-, -, -, -, -, -, -, -, -, -, -, -, -, -, -, -, -, h18, -⟩ := h0 A U H h
  exact h18
theorem e_d2 (h0 : zE aa E) : ∀ (A : Nat → Prop) (U : State) (H : Heap), E A U H → va_Z "java/lang/Integer" "DigitTens" "[B" (.ref (aa.2.2.2.1 5000)) A U H := fun A U H h => by
  obtain ⟨-, -, -, -, -, -, -, -, -, -, -, -, -, -, -, h16, -⟩ := h0 A U H h
  exact h16
theorem e_t1 (h0 : zE aa E) : ∀ (A : Nat → Prop) (U : State) (H : Heap), E A U H → va_T .byte (aa.2.2.2.1 5001) 100 (fun j => .int (nI (48 + j % 10))) A U H := fun A U H h => by
  obtain ⟨-, -, -, -, -, -, -, -, -, -, -, -, -, -, -, -, -, -, h19, -⟩ := h0 A U H h
  exact h19
theorem e_t2 (h0 : zE aa E) : ∀ (A : Nat → Prop) (U : State) (H : Heap), E A U H → va_T .byte (aa.2.2.2.1 5000) 100 (fun j => .int (nI (48 + j / 10))) A U H := fun A U H h => by
  obtain ⟨-, -, -, -, -, -, -, -, -, -, -, -, -, -, -, -, h17, -⟩ := h0 A U H h
  exact h17
def zd (f : Nat → Int32) (u p : Nat) : Nat → Int32 := if u < 10 then upd f (p - 1) (nI (48 + u % 10)) else upd (upd f (p - 1) (nI (48 + u % 10))) (p - 2) (nI (48 + u / 10))
def zdu (u : Nat) : Nat := if u < 10 then 1 else 2
set_option maxRecDepth 100000 in
set_option maxHeartbeats 4000000 in
theorem tz_getChars {J : gx_J} (h0 : zE aa E) (g : gx_G D t E l ({ frames := 0, cells := 0, slots := 0, locals := 0 }) cJ6_getChars_ba4f3 RJ6 7 J) {u p : Nat} {x1 : Value} (hu : u < 100) (hp : zdu u ≤ p) (hpM : p ≤ M) (hM : M ≤ 34) (kk : ∀ L, J 0 0 ((da, .inl (t 5, M, .inl (zd f u p))) :: rs) 120 L [.int (nI (p - zdu u))]) : J 0 0 ((da, .inl (t 5, M, .inl f)) :: rs) 22 [(0, .int (-(nI u))), (6, .int 0), (5, .int (nI p)), (1, x1), (2, .ref da)] [] := by
  have hp1 : 1 ≤ p := Nat.le_trans (by unfold zdu; split <;> omega) hp
  refine j_iload_n (pc := 22) g 0 dJ6_getChars_ba4f3_22 rfl ?_
  refine j_bipush (v := -100) (pc := 23) g dJ6_getChars_ba4f3_23 (by decide) ?_
  refine j_icmp_gt (tgt := 72) (pc := 25) g dJ6_getChars_ba4f3_25 (by decide) (fun _ => ?_) (fun h => absurd (z_n5 u hu) h)
  refine j_aload_n (pc := 72) g 4 dJ6_getChars_ba4f3_72 rfl ?_
  refine j_iinc (v := nI (p - 1)) (L' := [(5, .int (nI (p - 1))), (0, .int (-(nI u))), (6, .int 0), (1, x1), (2, .ref da)]) (pc := 73) g 2 dJ6_getChars_ba4f3_73 rfl (z_n8 p (by omega) hp1) (Nat.le_of_ble_eq_true rfl) rfl ?_
  refine j_iload (pc := 76) g 0 dJ6_getChars_ba4f3_76 rfl ?_
  refine j_gets (pc := 78) g (e_d1 h0) q_f_J6_83 rfl dJ6_getChars_ba4f3_78 ?_
  refine j_iload_n (pc := 81) g 1 dJ6_getChars_ba4f3_81 rfl ?_
  refine j_ineg (pc := 82) g dJ6_getChars_ba4f3_82 ?_
  rw [z_n7 u (by omega)]
  refine j_tb (pc := 83) g (e_t1 h0) (v := .int (nI (48 + u % 10))) (nI_in hu (by decide)) (by rw [nI_clamp (by omega)]) dJ6_getChars_ba4f3_83 ?_
  refine j_bast (pc := 84) g 0 rfl (vp_in_nI (n := p - 1) (by omega) (by omega)) rfl dJ6_getChars_ba4f3_84 ?_
  rw [nI_clamp (by omega), z_b2 _ (by omega)]
  refine j_iload_n (pc := 85) g 1 dJ6_getChars_ba4f3_85 rfl ?_
  refine j_bipush (v := -9) (pc := 86) g dJ6_getChars_ba4f3_86 (by decide) ?_
  refine j_icmp_ge (tgt := 104) (pc := 88) g dJ6_getChars_ba4f3_88 (by decide) (fun h => ?_) (fun h => ?_)
  · rw [z_n6 u (by omega)] at h
    have e1 : zd f u p = upd f (p - 1) (nI (48 + u % 10)) := if_pos h
    have e2 : zdu u = 1 := if_pos h
    refine j_iload (pc := 104) g 2 dJ6_getChars_ba4f3_104 rfl ?_
    refine j_if_eq (tgt := 118) (pc := 106) g dJ6_getChars_ba4f3_106 (by decide) (fun _ => ?_) (fun h => absurd rfl h)
    refine j_iload (pc := 118) g 0 dJ6_getChars_ba4f3_118 rfl ?_
    have := kk [(5, .int (nI (p - 1))), (0, .int (-(nI u))), (6, .int 0), (1, x1), (2, .ref da)]
    rw [e1, e2] at this
    exact this
  · rw [z_n6 u (by omega)] at h
    have e1 : zd f u p = upd (upd f (p - 1) (nI (48 + u % 10))) (p - 2) (nI (48 + u / 10)) := if_neg h
    have e2 : zdu u = 2 := if_neg h
    rw [e2] at hp
    refine j_aload_n (pc := 91) g 4 dJ6_getChars_ba4f3_91 rfl ?_
    refine j_iinc (v := nI (p - 2)) (L' := [(5, .int (nI (p - 2))), (0, .int (-(nI u))), (6, .int 0), (1, x1), (2, .ref da)]) (pc := 92) g 0 dJ6_getChars_ba4f3_92 rfl (z_n8 (p - 1) (by omega) (by omega)) (Nat.le_of_ble_eq_true rfl) rfl ?_
    refine j_iload (pc := 95) g 0 dJ6_getChars_ba4f3_95 rfl ?_
    refine j_gets (pc := 97) g (e_d2 h0) q_f_J6_87 rfl dJ6_getChars_ba4f3_97 ?_
    refine j_iload_n (pc := 100) g 1 dJ6_getChars_ba4f3_100 rfl ?_
    refine j_ineg (pc := 101) g dJ6_getChars_ba4f3_101 ?_
    rw [z_n7 u (by omega)]
    refine j_tb (pc := 102) g (e_t2 h0) (v := .int (nI (48 + u / 10))) (nI_in hu (by decide)) (by rw [nI_clamp (by omega)]) dJ6_getChars_ba4f3_102 ?_
    refine j_bast (pc := 103) g 0 rfl (vp_in_nI (n := p - 2) (by omega) (by omega)) rfl dJ6_getChars_ba4f3_103 ?_
    rw [nI_clamp (by omega), z_b2 _ (by omega)]
    refine j_iload (pc := 104) g 2 dJ6_getChars_ba4f3_104 rfl ?_
    refine j_if_eq (tgt := 118) (pc := 106) g dJ6_getChars_ba4f3_106 (by decide) (fun _ => ?_) (fun h => absurd rfl h)
    refine j_iload (pc := 118) g 0 dJ6_getChars_ba4f3_118 rfl ?_
    have := kk [(5, .int (nI (p - 2))), (0, .int (-(nI u))), (6, .int 0), (1, x1), (2, .ref da)]
    rw [e1, e2] at this
    exact this
end SB6
