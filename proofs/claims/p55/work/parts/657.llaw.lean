theorem lc_isKept {D : va_G} {t : Nat → ClassId} {aa : gx_AA} {l : Launch} {R : Room} {cc : ByteArray} {nL : Nat} {J : gx_J} {ad : Nat → Nat} {rs w w' : va_W} {κ pc : Nat} {L : List (Nat × Value)} {rest : List Value} (g : gx_G D t (gx_E0 aa) l R cc RL nL J) {M : Nat} (hM : M ≤ R.cells ∧ 6 * M ≤ R.slots) (hst : l.stackTraces = false) (hxl : xL aa < 2 ^ 31) (hk : κ + 2200 ≤ M) {σ : CS} {os : Nat} {fo : Nat → Int64} {p1 : Int32} {q : (Int32 × LwT)} (hf : fL_isKept aa (σ, fo) p1 = some q) (hp : w.Perm ((os, .inl (t 4, 70, .inr (.inl fo))) :: kW aa ad t σ rs)) (hp' : ((os, .inl (t 4, 70, .inr (.inl q.2.2.2))) :: kW aa ad t q.2.1 rs).Perm w') (hR : 10 + 1 ≤ R.frames ∧ 8 + (6 + 11) + 179 ≤ R.locals) (hcat : (rest.map fun v => v.category).sum ≤ 8) (hd : decode cc pc = .ok (.invokestatic 231, 3)) (kk : J (κ + 2200) (6 * (κ + 2200)) w' (pc + 3) L (.int q.1 :: rest)) : J κ (6 * κ) w pc L (.int p1 :: .ref os :: .ref (ad 0) :: rest) := j_callMi (na := 3) (As := [.ref (ad 0), .ref os, .int p1]) g (cL_isKept_ (rs := rs) hst hxl hf) q_t_L_isKept q_c_L_isKept q_l_L_231 q_n_L (by decide +kernel) rfl hR (lk_cap hM hk) hcat hp hp' hd (by rw [Nat.mul_add] at kk; exact kk) rfl
theorem lc_does {D : va_G} {t : Nat → ClassId} {aa : gx_AA} {l : Launch} {R : Room} {cc : ByteArray} {nL : Nat} {J : gx_J} {ad : Nat → Nat} {rs w w' : va_W} {κ pc : Nat} {L : List (Nat × Value)} {rest : List Value} (g : gx_G D t (gx_E0 aa) l R cc RL nL J) {M : Nat} (hM : M ≤ R.cells ∧ 6 * M ≤ R.slots) (hst : l.stackTraces = false) (hxl : xL aa < 2 ^ 31) (hk : κ + 900 ≤ M) {σ : CS} {p1 : Int32} {p2 : Int32} {p3 : Int32} {p4 : Int32} {p5 : Int32} {q : (Int32 × LwS)} (hf : fL_does aa σ p1 p2 p3 p4 p5 = some q) (hp : w.Perm (kW aa ad t σ rs)) (hp' : (kW aa ad t q.2.1 rs).Perm w') (hR : 40 + 1 ≤ R.frames ∧ 8 + (12 + 11) + 900 ≤ R.locals) (hcat : (rest.map fun v => v.category).sum ≤ 8) (hd : decode cc pc = .ok (.invokestatic 215, 3)) (kk : J (κ + 900) (6 * (κ + 900)) w' (pc + 3) L (.int q.1 :: rest)) : J κ (6 * κ) w pc L (.int p5 :: .int p4 :: .int p3 :: .ref (ad 0) :: .int p2 :: .int p1 :: .ref (xB aa) :: rest) := j_callMi (na := 7) (As := [.ref (xB aa), .int p1, .int p2, .ref (ad 0), .int p3, .int p4, .int p5]) g (cL_does_ (rs := rs) hst hxl hf) q_t_L_does q_c_L_does q_l_L_215 q_n_L (by decide +kernel) rfl hR (lk_cap hM hk) hcat hp hp' hd (by rw [Nat.mul_add] at kk; exact kk) rfl
theorem lc_isWhole {D : va_G} {t : Nat → ClassId} {aa : gx_AA} {l : Launch} {R : Room} {cc : ByteArray} {nL : Nat} {J : gx_J} {ad : Nat → Nat} {rs w w' : va_W} {κ pc : Nat} {L : List (Nat × Value)} {rest : List Value} (g : gx_G D t (gx_E0 aa) l R cc RL nL J) {M : Nat} (hM : M ≤ R.cells ∧ 6 * M ≤ R.slots) (hst : l.stackTraces = false) (hxl : xL aa < 2 ^ 31) (hk : κ + 5600 ≤ M) {σ : CS} {p1 : Int32} {p2 : Int32} {q : (Int32 × LwS)} (hf : fL_isWhole aa σ p1 p2 = some q) (hp : w.Perm (kW aa ad t σ rs)) (hp' : (kW aa ad t q.2.1 rs).Perm w') (hR : 22 + 1 ≤ R.frames ∧ 8 + (11 + 11) + 537 ≤ R.locals) (hcat : (rest.map fun v => v.category).sum ≤ 8) (hd : decode cc pc = .ok (.invokestatic 227, 3)) (kk : J (κ + 5600) (6 * (κ + 5600)) w' (pc + 3) L (.int q.1 :: rest)) : J κ (6 * κ) w pc L (.int p2 :: .int p1 :: .ref (xB aa) :: .ref (ad 0) :: rest) := j_callMi (na := 4) (As := [.ref (ad 0), .ref (xB aa), .int p1, .int p2]) g (cL_isWhole_ (rs := rs) hst hxl hf) q_t_L_isWhole q_c_L_isWhole q_l_L_227 q_n_L (by decide +kernel) rfl hR (lk_cap hM hk) hcat hp hp' hd (by rw [Nat.mul_add] at kk; exact kk) rfl
set_option maxRecDepth 100000 in
set_option maxHeartbeats 8000000 in
theorem tL_law_786 {D : va_G} {t : Nat → ClassId} {aa : gx_AA} {l : Launch} {J : gx_J} {ad : Nat → Nat} {rs : va_W} {os : Nat} {k31 : LwT → Int32 → Int32 → Int32 → Int32 → Option (Int32 × LwT)} {q : (Int32 × LwT)} (hst : l.stackTraces = false) (hxl : xL aa < 2 ^ 31) (g : gx_G D t (gx_E0 aa) l room_1 cL_law RL 28 J) (hE : ∀ (v : Int32) (σ : LwT) (pc : Nat) (L : List (Nat × Value)), some (v, σ) = some q → σ.2.1 ≤ 500000 → decode cL_law pc = .ok (.ireturn, 1) → narrow .boolean (.int v) = .int v → J σ.2.1 (6 * σ.2.1) ((os, .inl (t 4, 70, .inr (.inl σ.2.2))) :: kW aa ad t σ.1 rs) pc L [.int v]) (hk31 : ∀ (σ : LwT) (v3 : Int32) (v4 : Int32) (v5 : Int32) (v6 : Int32), k31 σ v3 v4 v5 v6 = some q → J σ.2.1 (6 * σ.2.1) ((os, .inl (t 4, 70, .inr (.inl σ.2.2))) :: kW aa ad t σ.1 rs) 31 [(0, .ref (xB aa)), (1, .ref (ad 0)), (2, .ref os), (3, .int v3), (4, .int v4), (5, .int v5), (6, .int v6)] []) : ∀ (σ : LwT) (v3 : Int32) (v4 : Int32) (v5 : Int32) (v6 : Int32) (v7 : Int64) (v9 : Int32) (v24 : Int32) (v26 : Int32), fL_law_786 aa k31 σ v3 v4 v5 v6 v7 v9 v24 v26 = some q → J σ.2.1 (6 * σ.2.1) ((os, .inl (t 4, 70, .inr (.inl σ.2.2))) :: kW aa ad t σ.1 rs) 786 [(0, .ref (xB aa)), (1, .ref (ad 0)), (2, .ref os), (3, .int v3), (4, .int v4), (5, .int v5), (6, .int v6), (7, .long v7), (9, .int v9), (24, .int v24), (26, .int v26)] [] := by
  intro σ v3 v4 v5 v6 v7 v9 v24 v26 hf
  unfold fL_law_786 at hf
  refine j_iinc (v := v4 + 5) (L' := [(4, .int (v4 + 5)), (0, .ref (xB aa)), (1, .ref (ad 0)), (2, .ref os), (3, .int v3), (5, .int v5), (6, .int v6), (7, .long v7), (9, .int v9), (24, .int v24), (26, .int v26)]) (pc := 786) g 4 dL_law_786 rfl rfl (Nat.le_of_ble_eq_true rfl) rfl ?_
  refine j_iload (pc := 789) g 10 dL_law_789 rfl ?_
  refine j_if_eq (tgt := 817) (pc := 791) g dL_law_791 (by decide) (fun c_791 => ?_) (fun c_791 => ?_)
  · have hf := gx_it c_791 hf
    refine j_iconst (v := 0) (pc := 817) g dL_law_817 (by decide) ?_
    obtain ⟨h_k, hf⟩ := gx_ck hf
    exact hE _ _ _ _ hf h_k dL_law_818 rfl
  · have hf := gx_if c_791 hf
    refine j_aload_n (pc := 794) g 2 dL_law_794 rfl ?_
    refine j_aload_n (pc := 795) g 1 dL_law_795 rfl ?_
    refine j_iload (pc := 796) g 0 dL_law_796 rfl ?_
    refine j_iload (pc := 798) g 6 dL_law_798 rfl ?_
    refine j_iconst (v := 4) (pc := 800) g dL_law_800 (by decide) ?_
    refine j_irem (pc := 801) g dL_law_801 (by decide) ?_
    refine j_iconst (v := 3) (pc := 802) g dL_law_802 (by decide) ?_
    refine j_icmp_ne (tgt := 810) (pc := 803) g dL_law_803 (by decide) (fun c_803 => ?_) (fun c_803 => ?_)
    · have hf := gx_if c_803 hf
      refine j_iconst (v := 0) (pc := 810) g dL_law_810 (by decide) ?_
      obtain ⟨k_811, hf⟩ := gx_ck hf
      obtain ⟨r811, h_811, hf⟩ := gx_bs hf
      refine lc_isWhole (pc := 811) g (M := 500000) ⟨(Nat.le_of_ble_eq_true rfl), (Nat.le_of_ble_eq_true rfl)⟩ hst hxl k_811 h_811 (kW_pm aa ad t _ _ _) (kW_pm aa ad t _ _ _).symm ⟨(Nat.le_of_ble_eq_true rfl), (Nat.le_of_ble_eq_true rfl)⟩ (Nat.le_of_ble_eq_true rfl) dL_law_811 ?_
      refine j_if_ne (tgt := 819) (pc := 814) g dL_law_814 (by decide) (fun c_814 => ?_) (fun c_814 => ?_)
      · have hf := gx_if c_814 hf
        refine j_iload (pc := 819) g 9 dL_law_819 rfl ?_
        refine j_if_ne (tgt := 845) (pc := 821) g dL_law_821 (by decide) (fun c_821 => ?_) (fun c_821 => ?_)
        · have hf := gx_if c_821 hf
          refine j_iinc (v := v3 + 1) (L' := [(3, .int (v3 + 1)), (4, .int (v4 + 5)), (0, .ref (xB aa)), (1, .ref (ad 0)), (2, .ref os), (5, .int v5), (6, .int v6), (7, .long v7), (9, .int v9), (24, .int v24), (26, .int v26)]) (pc := 845) g 4 dL_law_845 rfl rfl (Nat.le_of_ble_eq_true rfl) rfl ?_
          refine j_aload_n (pc := 848) g 4 dL_law_848 rfl ?_
          refine j_iload_n (pc := 849) g 0 dL_law_849 rfl ?_
          refine j_aload_n (pc := 850) g 3 dL_law_850 rfl ?_
          obtain ⟨k_851, hf⟩ := gx_ck hf
          obtain ⟨r851, h_851, hf⟩ := gx_bs hf
          refine lc_sum (pc := 851) g (M := 500000) ⟨(Nat.le_of_ble_eq_true rfl), (Nat.le_of_ble_eq_true rfl)⟩ hst hxl k_851 h_851 (kW_pm aa ad t _ _ _) (kW_pm aa ad t _ _ _).symm ⟨(Nat.le_of_ble_eq_true rfl), (Nat.le_of_ble_eq_true rfl)⟩ (Nat.le_of_ble_eq_true rfl) dL_law_851 ?_
          obtain ⟨h_854, hf⟩ := gx_ck hf
          refine j_last (w' := ((os, .inl (t 4, 70, .inr (.inl (vp_updL σ.2.2 (v3 + 1).toNatClampNeg r851.1)))) :: kW aa ad t r851.2.1 rs)) (pc := 854) g 0 rfl h_854 rfl dL_law_854 ?_
          refine j_iinc (v := v6 + 1) (L' := [(6, .int (v6 + 1)), (3, .int (v3 + 1)), (4, .int (v4 + 5)), (0, .ref (xB aa)), (1, .ref (ad 0)), (2, .ref os), (5, .int v5), (7, .long v7), (9, .int v9), (24, .int v24), (26, .int v26)]) (pc := 855) g 6 dL_law_855 rfl rfl (Nat.le_of_ble_eq_true rfl) rfl ?_
          refine j_goto (tgt := 31) (pc := 858) g dL_law_858 (by decide) ?_
          refine j_sub (pc := 31) g [3, 4, 5, 1, 2, 6, 0] rfl ?_
          exact hk31 (r851.2.1, ((σ.2.1 + 5600) + 200), vp_updL σ.2.2 (v3 + 1).toNatClampNeg r851.1) (v3 + 1) (v4 + 5) v5 (v6 + 1) hf
        · have hf := gx_it c_821 hf
          refine j_aload_n (pc := 824) g 2 dL_law_824 rfl ?_
          obtain ⟨k_825, hf⟩ := gx_ck hf
          obtain ⟨r825, h_825, hf⟩ := gx_bs hf
          refine lc_sum (pc := 825) g (M := 500000) ⟨(Nat.le_of_ble_eq_true rfl), (Nat.le_of_ble_eq_true rfl)⟩ hst hxl k_825 h_825 (kW_pm aa ad t _ _ _) (kW_pm aa ad t _ _ _).symm ⟨(Nat.le_of_ble_eq_true rfl), (Nat.le_of_ble_eq_true rfl)⟩ (Nat.le_of_ble_eq_true rfl) dL_law_825 ?_
          refine j_lload (pc := 828) g 7 dL_law_828 rfl ?_
          refine j_lcmp (pc := 830) g dL_law_830 ?_
          refine j_if_ne (tgt := 843) (pc := 831) g dL_law_831 (by decide) (fun c_831 => ?_) (fun c_831 => ?_)
          · have hf := gx_if c_831 hf
            refine j_iconst (v := 0) (pc := 843) g dL_law_843 (by decide) ?_
            obtain ⟨h_k, hf⟩ := gx_ck hf
            exact hE _ _ _ _ hf h_k dL_law_844 rfl
          · have hf := gx_it c_831 hf
            refine j_aload_n (pc := 834) g 2 dL_law_834 rfl ?_
            obtain ⟨k_835, hf⟩ := gx_ck hf
            obtain ⟨r835, h_835, hf⟩ := gx_bs hf
            refine lv_undoCount (pc := 835) g (M := 500000) ⟨(Nat.le_of_ble_eq_true rfl), (Nat.le_of_ble_eq_true rfl)⟩ k_835 h_835 (q0 := 1) rfl rfl (kW_pm aa ad t _ _ _) (kW_pm aa ad t _ _ _).symm ⟨(Nat.le_of_ble_eq_true rfl), (Nat.le_of_ble_eq_true rfl)⟩ (Nat.le_of_ble_eq_true rfl) dL_law_835 ?_
            refine j_iload (pc := 838) g 8 dL_law_838 rfl ?_
            refine j_icmp_eq (tgt := 855) (pc := 840) g dL_law_840 (by decide) (fun c_840 => ?_) (fun c_840 => ?_)
            · have hf := gx_it c_840 hf
              refine j_iinc (v := v6 + 1) (L' := [(6, .int (v6 + 1)), (4, .int (v4 + 5)), (0, .ref (xB aa)), (1, .ref (ad 0)), (2, .ref os), (3, .int v3), (5, .int v5), (7, .long v7), (9, .int v9), (24, .int v24), (26, .int v26)]) (pc := 855) g 6 dL_law_855 rfl rfl (Nat.le_of_ble_eq_true rfl) rfl ?_
              refine j_goto (tgt := 31) (pc := 858) g dL_law_858 (by decide) ?_
              refine j_sub (pc := 31) g [2, 3, 4, 5, 1, 6, 0] rfl ?_
              exact hk31 (r825.2.1, (σ.2.1 + 5600) + 200, σ.2.2) v3 (v4 + 5) v5 (v6 + 1) hf
            · have hf := gx_if c_840 hf
              refine j_iconst (v := 0) (pc := 843) g dL_law_843 (by decide) ?_
              obtain ⟨h_k, hf⟩ := gx_ck hf
              exact hE _ _ _ _ hf h_k dL_law_844 rfl
      · have hf := gx_it c_814 hf
        refine j_iconst (v := 0) (pc := 817) g dL_law_817 (by decide) ?_
        obtain ⟨h_k, hf⟩ := gx_ck hf
        exact hE _ _ _ _ hf h_k dL_law_818 rfl
    · have hf := gx_it c_803 hf
      refine j_iconst (v := 1) (pc := 806) g dL_law_806 (by decide) ?_
      refine j_goto (tgt := 811) (pc := 807) g dL_law_807 (by decide) ?_
      obtain ⟨k_811, hf⟩ := gx_ck hf
      obtain ⟨r811, h_811, hf⟩ := gx_bs hf
      refine lc_isWhole (pc := 811) g (M := 500000) ⟨(Nat.le_of_ble_eq_true rfl), (Nat.le_of_ble_eq_true rfl)⟩ hst hxl k_811 h_811 (kW_pm aa ad t _ _ _) (kW_pm aa ad t _ _ _).symm ⟨(Nat.le_of_ble_eq_true rfl), (Nat.le_of_ble_eq_true rfl)⟩ (Nat.le_of_ble_eq_true rfl) dL_law_811 ?_
      refine j_if_ne (tgt := 819) (pc := 814) g dL_law_814 (by decide) (fun c_814 => ?_) (fun c_814 => ?_)
      · have hf := gx_if c_814 hf
        refine j_iload (pc := 819) g 9 dL_law_819 rfl ?_
        refine j_if_ne (tgt := 845) (pc := 821) g dL_law_821 (by decide) (fun c_821 => ?_) (fun c_821 => ?_)
        · have hf := gx_if c_821 hf
          refine j_iinc (v := v3 + 1) (L' := [(3, .int (v3 + 1)), (4, .int (v4 + 5)), (0, .ref (xB aa)), (1, .ref (ad 0)), (2, .ref os), (5, .int v5), (6, .int v6), (7, .long v7), (9, .int v9), (24, .int v24), (26, .int v26)]) (pc := 845) g 4 dL_law_845 rfl rfl (Nat.le_of_ble_eq_true rfl) rfl ?_
          refine j_aload_n (pc := 848) g 4 dL_law_848 rfl ?_
          refine j_iload_n (pc := 849) g 0 dL_law_849 rfl ?_
          refine j_aload_n (pc := 850) g 3 dL_law_850 rfl ?_
          obtain ⟨k_851, hf⟩ := gx_ck hf
          obtain ⟨r851, h_851, hf⟩ := gx_bs hf
          refine lc_sum (pc := 851) g (M := 500000) ⟨(Nat.le_of_ble_eq_true rfl), (Nat.le_of_ble_eq_true rfl)⟩ hst hxl k_851 h_851 (kW_pm aa ad t _ _ _) (kW_pm aa ad t _ _ _).symm ⟨(Nat.le_of_ble_eq_true rfl), (Nat.le_of_ble_eq_true rfl)⟩ (Nat.le_of_ble_eq_true rfl) dL_law_851 ?_
          obtain ⟨h_854, hf⟩ := gx_ck hf
          refine j_last (w' := ((os, .inl (t 4, 70, .inr (.inl (vp_updL σ.2.2 (v3 + 1).toNatClampNeg r851.1)))) :: kW aa ad t r851.2.1 rs)) (pc := 854) g 0 rfl h_854 rfl dL_law_854 ?_
          refine j_iinc (v := v6 + 1) (L' := [(6, .int (v6 + 1)), (3, .int (v3 + 1)), (4, .int (v4 + 5)), (0, .ref (xB aa)), (1, .ref (ad 0)), (2, .ref os), (5, .int v5), (7, .long v7), (9, .int v9), (24, .int v24), (26, .int v26)]) (pc := 855) g 6 dL_law_855 rfl rfl (Nat.le_of_ble_eq_true rfl) rfl ?_
          refine j_goto (tgt := 31) (pc := 858) g dL_law_858 (by decide) ?_
          refine j_sub (pc := 31) g [3, 4, 5, 1, 2, 6, 0] rfl ?_
          exact hk31 (r851.2.1, ((σ.2.1 + 5600) + 200), vp_updL σ.2.2 (v3 + 1).toNatClampNeg r851.1) (v3 + 1) (v4 + 5) v5 (v6 + 1) hf
        · have hf := gx_it c_821 hf
          refine j_aload_n (pc := 824) g 2 dL_law_824 rfl ?_
          obtain ⟨k_825, hf⟩ := gx_ck hf
          obtain ⟨r825, h_825, hf⟩ := gx_bs hf
          refine lc_sum (pc := 825) g (M := 500000) ⟨(Nat.le_of_ble_eq_true rfl), (Nat.le_of_ble_eq_true rfl)⟩ hst hxl k_825 h_825 (kW_pm aa ad t _ _ _) (kW_pm aa ad t _ _ _).symm ⟨(Nat.le_of_ble_eq_true rfl), (Nat.le_of_ble_eq_true rfl)⟩ (Nat.le_of_ble_eq_true rfl) dL_law_825 ?_
          refine j_lload (pc := 828) g 7 dL_law_828 rfl ?_
          refine j_lcmp (pc := 830) g dL_law_830 ?_
          refine j_if_ne (tgt := 843) (pc := 831) g dL_law_831 (by decide) (fun c_831 => ?_) (fun c_831 => ?_)
          · have hf := gx_if c_831 hf
            refine j_iconst (v := 0) (pc := 843) g dL_law_843 (by decide) ?_
            obtain ⟨h_k, hf⟩ := gx_ck hf
            exact hE _ _ _ _ hf h_k dL_law_844 rfl
          · have hf := gx_it c_831 hf
            refine j_aload_n (pc := 834) g 2 dL_law_834 rfl ?_
            obtain ⟨k_835, hf⟩ := gx_ck hf
            obtain ⟨r835, h_835, hf⟩ := gx_bs hf
            refine lv_undoCount (pc := 835) g (M := 500000) ⟨(Nat.le_of_ble_eq_true rfl), (Nat.le_of_ble_eq_true rfl)⟩ k_835 h_835 (q0 := 1) rfl rfl (kW_pm aa ad t _ _ _) (kW_pm aa ad t _ _ _).symm ⟨(Nat.le_of_ble_eq_true rfl), (Nat.le_of_ble_eq_true rfl)⟩ (Nat.le_of_ble_eq_true rfl) dL_law_835 ?_
            refine j_iload (pc := 838) g 8 dL_law_838 rfl ?_
            refine j_icmp_eq (tgt := 855) (pc := 840) g dL_law_840 (by decide) (fun c_840 => ?_) (fun c_840 => ?_)
            · have hf := gx_it c_840 hf
              refine j_iinc (v := v6 + 1) (L' := [(6, .int (v6 + 1)), (4, .int (v4 + 5)), (0, .ref (xB aa)), (1, .ref (ad 0)), (2, .ref os), (3, .int v3), (5, .int v5), (7, .long v7), (9, .int v9), (24, .int v24), (26, .int v26)]) (pc := 855) g 6 dL_law_855 rfl rfl (Nat.le_of_ble_eq_true rfl) rfl ?_
              refine j_goto (tgt := 31) (pc := 858) g dL_law_858 (by decide) ?_
              refine j_sub (pc := 31) g [2, 3, 4, 5, 1, 6, 0] rfl ?_
              exact hk31 (r825.2.1, (σ.2.1 + 5600) + 200, σ.2.2) v3 (v4 + 5) v5 (v6 + 1) hf
            · have hf := gx_if c_840 hf
              refine j_iconst (v := 0) (pc := 843) g dL_law_843 (by decide) ?_
              obtain ⟨h_k, hf⟩ := gx_ck hf
              exact hE _ _ _ _ hf h_k dL_law_844 rfl
      · have hf := gx_it c_814 hf
        refine j_iconst (v := 0) (pc := 817) g dL_law_817 (by decide) ?_
        obtain ⟨h_k, hf⟩ := gx_ck hf
        exact hE _ _ _ _ hf h_k dL_law_818 rfl
set_option maxRecDepth 100000 in
set_option maxHeartbeats 8000000 in
theorem tL_law_715 {D : va_G} {t : Nat → ClassId} {aa : gx_AA} {l : Launch} {J : gx_J} {ad : Nat → Nat} {rs : va_W} {os : Nat} {k31 : LwT → Int32 → Int32 → Int32 → Int32 → Option (Int32 × LwT)} {q : (Int32 × LwT)} (hst : l.stackTraces = false) (hxl : xL aa < 2 ^ 31) (g : gx_G D t (gx_E0 aa) l room_1 cL_law RL 28 J) (hE : ∀ (v : Int32) (σ : LwT) (pc : Nat) (L : List (Nat × Value)), some (v, σ) = some q → σ.2.1 ≤ 500000 → decode cL_law pc = .ok (.ireturn, 1) → narrow .boolean (.int v) = .int v → J σ.2.1 (6 * σ.2.1) ((os, .inl (t 4, 70, .inr (.inl σ.2.2))) :: kW aa ad t σ.1 rs) pc L [.int v]) (hk31 : ∀ (σ : LwT) (v3 : Int32) (v4 : Int32) (v5 : Int32) (v6 : Int32), k31 σ v3 v4 v5 v6 = some q → J σ.2.1 (6 * σ.2.1) ((os, .inl (t 4, 70, .inr (.inl σ.2.2))) :: kW aa ad t σ.1 rs) 31 [(0, .ref (xB aa)), (1, .ref (ad 0)), (2, .ref os), (3, .int v3), (4, .int v4), (5, .int v5), (6, .int v6)] []) : ∀ (σ : LwT) (v3 : Int32) (v4 : Int32) (v5 : Int32) (v6 : Int32) (v7 : Int64) (v9 : Int32) (v14 : Int32) (v21 : Int32) (v22 : Int32) (v23 : Int32) (v24 : Int32) (v26 : Int32) (v27 : Int32), fL_law_715 aa k31 σ v3 v4 v5 v6 v7 v9 v14 v21 v22 v23 v24 v26 v27 = some q → J σ.2.1 (6 * σ.2.1) ((os, .inl (t 4, 70, .inr (.inl σ.2.2))) :: kW aa ad t σ.1 rs) 715 [(0, .ref (xB aa)), (1, .ref (ad 0)), (2, .ref os), (3, .int v3), (4, .int v4), (5, .int v5), (6, .int v6), (7, .long v7), (9, .int v9), (14, .int v14), (21, .int v21), (22, .int v22), (23, .int v23), (24, .int v24), (26, .int v26), (27, .int v27)] [] := by
  intro σ v3 v4 v5 v6 v7 v9 v14 v21 v22 v23 v24 v26 v27 hf
  unfold fL_law_715 at hf
  refine j_iload (pc := 715) g 14 dL_law_715 rfl ?_
  refine j_iload (pc := 717) g 15 dL_law_717 rfl ?_
  refine j_if_eq (tgt := 778) (pc := 719) g dL_law_719 (by decide) (fun c_719 => ?_) (fun c_719 => ?_)
  · have hf := gx_it c_719 hf
    refine j_iconst (v := 1) (pc := 778) g dL_law_778 (by decide) ?_
    refine j_goto (tgt := 783) (pc := 779) g dL_law_779 (by decide) ?_
    refine j_iand (pc := 783) g dL_law_783 ?_
    refine j_istore (L' := [(26, .int (v26 &&& (1 : Int32))), (0, .ref (xB aa)), (1, .ref (ad 0)), (2, .ref os), (3, .int v3), (4, .int v4), (5, .int v5), (6, .int v6), (7, .long v7), (9, .int v9), (14, .int v14), (21, .int v21), (22, .int v22), (23, .int v23), (24, .int v24), (27, .int v27)]) (pc := 784) g dL_law_784 (Nat.le_of_ble_eq_true rfl) rfl ?_
    refine j_sub (pc := 786) g [1, 2, 3, 4, 5, 6, 7, 8, 9, 14, 0] rfl ?_
    exact tL_law_786 hst hxl g hE hk31 σ v3 v4 v5 v6 v7 v9 v24 (v26 &&& (1 : Int32)) hf
  · have hf := gx_if c_719 hf
    refine j_iload (pc := 722) g 11 dL_law_722 rfl ?_
    refine j_if_lt (tgt := 778) (pc := 724) g dL_law_724 (by decide) (fun c_724 => ?_) (fun c_724 => ?_)
    · have hf := gx_it c_724 hf
      refine j_iconst (v := 1) (pc := 778) g dL_law_778 (by decide) ?_
      refine j_goto (tgt := 783) (pc := 779) g dL_law_779 (by decide) ?_
      refine j_iand (pc := 783) g dL_law_783 ?_
      refine j_istore (L' := [(26, .int (v26 &&& (1 : Int32))), (0, .ref (xB aa)), (1, .ref (ad 0)), (2, .ref os), (3, .int v3), (4, .int v4), (5, .int v5), (6, .int v6), (7, .long v7), (9, .int v9), (14, .int v14), (21, .int v21), (22, .int v22), (23, .int v23), (24, .int v24), (27, .int v27)]) (pc := 784) g dL_law_784 (Nat.le_of_ble_eq_true rfl) rfl ?_
      refine j_sub (pc := 786) g [1, 2, 3, 4, 5, 6, 7, 8, 9, 14, 0] rfl ?_
      exact tL_law_786 hst hxl g hE hk31 σ v3 v4 v5 v6 v7 v9 v24 (v26 &&& (1 : Int32)) hf
    · have hf := gx_if c_724 hf
      refine j_iload (pc := 727) g 9 dL_law_727 rfl ?_
      refine j_iload (pc := 729) g 10 dL_law_729 rfl ?_
      refine j_icmp_lt (tgt := 743) (pc := 731) g dL_law_731 (by decide) (fun c_731 => ?_) (fun c_731 => ?_)
      · have hf := gx_it c_731 hf
        refine j_iload (pc := 743) g 12 dL_law_743 rfl ?_
        refine j_if_ne (tgt := 782) (pc := 745) g dL_law_745 (by decide) (fun c_745 => ?_) (fun c_745 => ?_)
        · have hf := gx_if c_745 hf
          refine j_iconst (v := 0) (pc := 782) g dL_law_782 (by decide) ?_
          refine j_iand (pc := 783) g dL_law_783 ?_
          refine j_istore (L' := [(26, .int (v26 &&& (0 : Int32))), (0, .ref (xB aa)), (1, .ref (ad 0)), (2, .ref os), (3, .int v3), (4, .int v4), (5, .int v5), (6, .int v6), (7, .long v7), (9, .int v9), (14, .int v14), (21, .int v21), (22, .int v22), (23, .int v23), (24, .int v24), (27, .int v27)]) (pc := 784) g dL_law_784 (Nat.le_of_ble_eq_true rfl) rfl ?_
          refine j_sub (pc := 786) g [1, 2, 3, 4, 5, 6, 7, 8, 9, 14, 0] rfl ?_
          exact tL_law_786 hst hxl g hE hk31 σ v3 v4 v5 v6 v7 v9 v24 (v26 &&& (0 : Int32)) hf
        · have hf := gx_it c_745 hf
          refine j_aload_n (pc := 748) g 1 dL_law_748 rfl ?_
          obtain ⟨k_749, hf⟩ := gx_ck hf
          obtain ⟨r749, h_749, hf⟩ := gx_bs hf
          refine lv_orderCount (pc := 749) g (M := 500000) ⟨(Nat.le_of_ble_eq_true rfl), (Nat.le_of_ble_eq_true rfl)⟩ k_749 h_749 (q0 := 1) rfl rfl (kW_pm aa ad t _ _ _) (kW_pm aa ad t _ _ _).symm ⟨(Nat.le_of_ble_eq_true rfl), (Nat.le_of_ble_eq_true rfl)⟩ (Nat.le_of_ble_eq_true rfl) dL_law_749 ?_
          refine j_iconst (v := 1) (pc := 752) g dL_law_752 (by decide) ?_
          refine j_icmp_ne (tgt := 782) (pc := 753) g dL_law_753 (by decide) (fun c_753 => ?_) (fun c_753 => ?_)
          · have hf := gx_if c_753 hf
            refine j_iconst (v := 0) (pc := 782) g dL_law_782 (by decide) ?_
            refine j_iand (pc := 783) g dL_law_783 ?_
            refine j_istore (L' := [(26, .int (v26 &&& (0 : Int32))), (0, .ref (xB aa)), (1, .ref (ad 0)), (2, .ref os), (3, .int v3), (4, .int v4), (5, .int v5), (6, .int v6), (7, .long v7), (9, .int v9), (14, .int v14), (21, .int v21), (22, .int v22), (23, .int v23), (24, .int v24), (27, .int v27)]) (pc := 784) g dL_law_784 (Nat.le_of_ble_eq_true rfl) rfl ?_
            refine j_sub (pc := 786) g [1, 2, 3, 4, 5, 6, 7, 8, 9, 14, 0] rfl ?_
            exact tL_law_786 hst hxl g hE hk31 σ v3 v4 v5 v6 v7 v9 v24 (v26 &&& (0 : Int32)) hf
          · have hf := gx_it c_753 hf
            refine j_aload_n (pc := 756) g 1 dL_law_756 rfl ?_
            refine j_aload_n (pc := 757) g 1 dL_law_757 rfl ?_
            refine j_iconst (v := 0) (pc := 758) g dL_law_758 (by decide) ?_
            obtain ⟨k_759, hf⟩ := gx_ck hf
            obtain ⟨r759, h_759, hf⟩ := gx_bs hf
            refine lc_holder (pc := 759) g (M := 500000) ⟨(Nat.le_of_ble_eq_true rfl), (Nat.le_of_ble_eq_true rfl)⟩ hst k_759 h_759 (kW_pm aa ad t _ _ _) (kW_pm aa ad t _ _ _).symm ⟨(Nat.le_of_ble_eq_true rfl), (Nat.le_of_ble_eq_true rfl)⟩ (Nat.le_of_ble_eq_true rfl) dL_law_759 ?_
            refine j_aload_n (pc := 762) g 1 dL_law_762 rfl ?_
            refine j_iconst (v := 0) (pc := 763) g dL_law_763 (by decide) ?_
            obtain ⟨k_764, hf⟩ := gx_ck hf
            obtain ⟨r764, h_764, hf⟩ := gx_bs hf
            refine lc_target (pc := 764) g (M := 500000) ⟨(Nat.le_of_ble_eq_true rfl), (Nat.le_of_ble_eq_true rfl)⟩ hst k_764 h_764 (kW_pm aa ad t _ _ _) (kW_pm aa ad t _ _ _).symm ⟨(Nat.le_of_ble_eq_true rfl), (Nat.le_of_ble_eq_true rfl)⟩ (Nat.le_of_ble_eq_true rfl) dL_law_764 ?_
            obtain ⟨k_767, hf⟩ := gx_ck hf
            obtain ⟨r767, h_767, hf⟩ := gx_bs hf
            refine lc_hoursFor (pc := 767) g (M := 500000) ⟨(Nat.le_of_ble_eq_true rfl), (Nat.le_of_ble_eq_true rfl)⟩ hst k_767 h_767 (kW_pm aa ad t _ _ _) (kW_pm aa ad t _ _ _).symm ⟨(Nat.le_of_ble_eq_true rfl), (Nat.le_of_ble_eq_true rfl)⟩ (Nat.le_of_ble_eq_true rfl) dL_law_767 ?_
            refine j_iload (pc := 770) g 10 dL_law_770 rfl ?_
            refine j_iload (pc := 772) g 9 dL_law_772 rfl ?_
            refine j_isub (pc := 774) g dL_law_774 ?_
            refine j_icmp_ne (tgt := 782) (pc := 775) g dL_law_775 (by decide) (fun c_775 => ?_) (fun c_775 => ?_)
            · have hf := gx_if c_775 hf
              refine j_iconst (v := 0) (pc := 782) g dL_law_782 (by decide) ?_
              refine j_iand (pc := 783) g dL_law_783 ?_
              refine j_istore (L' := [(26, .int (v26 &&& (0 : Int32))), (0, .ref (xB aa)), (1, .ref (ad 0)), (2, .ref os), (3, .int v3), (4, .int v4), (5, .int v5), (6, .int v6), (7, .long v7), (9, .int v9), (14, .int v14), (21, .int v21), (22, .int v22), (23, .int v23), (24, .int v24), (27, .int v27)]) (pc := 784) g dL_law_784 (Nat.le_of_ble_eq_true rfl) rfl ?_
              refine j_sub (pc := 786) g [1, 2, 3, 4, 5, 6, 7, 8, 9, 14, 0] rfl ?_
              exact tL_law_786 hst hxl g hE hk31 (r767.2, ((σ.2.1 + 1) + 1) + 1, σ.2.2) v3 v4 v5 v6 v7 v9 v24 (v26 &&& (0 : Int32)) hf
            · have hf := gx_it c_775 hf
              refine j_iconst (v := 1) (pc := 778) g dL_law_778 (by decide) ?_
              refine j_goto (tgt := 783) (pc := 779) g dL_law_779 (by decide) ?_
              refine j_iand (pc := 783) g dL_law_783 ?_
              refine j_istore (L' := [(26, .int (v26 &&& (1 : Int32))), (0, .ref (xB aa)), (1, .ref (ad 0)), (2, .ref os), (3, .int v3), (4, .int v4), (5, .int v5), (6, .int v6), (7, .long v7), (9, .int v9), (14, .int v14), (21, .int v21), (22, .int v22), (23, .int v23), (24, .int v24), (27, .int v27)]) (pc := 784) g dL_law_784 (Nat.le_of_ble_eq_true rfl) rfl ?_
              refine j_sub (pc := 786) g [1, 2, 3, 4, 5, 6, 7, 8, 9, 14, 0] rfl ?_
              exact tL_law_786 hst hxl g hE hk31 (r767.2, ((σ.2.1 + 1) + 1) + 1, σ.2.2) v3 v4 v5 v6 v7 v9 v24 (v26 &&& (1 : Int32)) hf
      · have hf := gx_if c_731 hf
        refine j_iload (pc := 734) g 12 dL_law_734 rfl ?_
        refine j_iconst (v := 1) (pc := 736) g dL_law_736 (by decide) ?_
        refine j_icmp_ne (tgt := 782) (pc := 737) g dL_law_737 (by decide) (fun c_737 => ?_) (fun c_737 => ?_)
        · have hf := gx_if c_737 hf
          refine j_iconst (v := 0) (pc := 782) g dL_law_782 (by decide) ?_
          refine j_iand (pc := 783) g dL_law_783 ?_
          refine j_istore (L' := [(26, .int (v26 &&& (0 : Int32))), (0, .ref (xB aa)), (1, .ref (ad 0)), (2, .ref os), (3, .int v3), (4, .int v4), (5, .int v5), (6, .int v6), (7, .long v7), (9, .int v9), (14, .int v14), (21, .int v21), (22, .int v22), (23, .int v23), (24, .int v24), (27, .int v27)]) (pc := 784) g dL_law_784 (Nat.le_of_ble_eq_true rfl) rfl ?_
          refine j_sub (pc := 786) g [1, 2, 3, 4, 5, 6, 7, 8, 9, 14, 0] rfl ?_
          exact tL_law_786 hst hxl g hE hk31 σ v3 v4 v5 v6 v7 v9 v24 (v26 &&& (0 : Int32)) hf
        · have hf := gx_it c_737 hf
          refine j_goto (tgt := 778) (pc := 740) g dL_law_740 (by decide) ?_
          refine j_iconst (v := 1) (pc := 778) g dL_law_778 (by decide) ?_
          refine j_goto (tgt := 783) (pc := 779) g dL_law_779 (by decide) ?_
          refine j_iand (pc := 783) g dL_law_783 ?_
          refine j_istore (L' := [(26, .int (v26 &&& (1 : Int32))), (0, .ref (xB aa)), (1, .ref (ad 0)), (2, .ref os), (3, .int v3), (4, .int v4), (5, .int v5), (6, .int v6), (7, .long v7), (9, .int v9), (14, .int v14), (21, .int v21), (22, .int v22), (23, .int v23), (24, .int v24), (27, .int v27)]) (pc := 784) g dL_law_784 (Nat.le_of_ble_eq_true rfl) rfl ?_
          refine j_sub (pc := 786) g [1, 2, 3, 4, 5, 6, 7, 8, 9, 14, 0] rfl ?_
          exact tL_law_786 hst hxl g hE hk31 σ v3 v4 v5 v6 v7 v9 v24 (v26 &&& (1 : Int32)) hf
set_option maxRecDepth 100000 in
set_option maxHeartbeats 8000000 in
theorem tL_law_673 {D : va_G} {t : Nat → ClassId} {aa : gx_AA} {l : Launch} {J : gx_J} {ad : Nat → Nat} {rs : va_W} {os : Nat} {k31 : LwT → Int32 → Int32 → Int32 → Int32 → Option (Int32 × LwT)} {q : (Int32 × LwT)} (hst : l.stackTraces = false) (hxl : xL aa < 2 ^ 31) (g : gx_G D t (gx_E0 aa) l room_1 cL_law RL 28 J) (hE : ∀ (v : Int32) (σ : LwT) (pc : Nat) (L : List (Nat × Value)), some (v, σ) = some q → σ.2.1 ≤ 500000 → decode cL_law pc = .ok (.ireturn, 1) → narrow .boolean (.int v) = .int v → J σ.2.1 (6 * σ.2.1) ((os, .inl (t 4, 70, .inr (.inl σ.2.2))) :: kW aa ad t σ.1 rs) pc L [.int v]) (hk31 : ∀ (σ : LwT) (v3 : Int32) (v4 : Int32) (v5 : Int32) (v6 : Int32), k31 σ v3 v4 v5 v6 = some q → J σ.2.1 (6 * σ.2.1) ((os, .inl (t 4, 70, .inr (.inl σ.2.2))) :: kW aa ad t σ.1 rs) 31 [(0, .ref (xB aa)), (1, .ref (ad 0)), (2, .ref os), (3, .int v3), (4, .int v4), (5, .int v5), (6, .int v6)] []) : ∀ (σ : LwT) (v3 : Int32) (v4 : Int32) (v5 : Int32) (v6 : Int32) (v7 : Int64) (v9 : Int32) (v14 : Int32) (v15 : Int32) (v16 : Int32) (v17 : Int32) (v21 : Int32) (v22 : Int32) (v23 : Int32) (v24 : Int32) (v25 : Int32) (v26 : Int32) (v27 : Int32), fL_law_673 aa k31 σ v3 v4 v5 v6 v7 v9 v14 v15 v16 v17 v21 v22 v23 v24 v25 v26 v27 = some q → J σ.2.1 (6 * σ.2.1) ((os, .inl (t 4, 70, .inr (.inl σ.2.2))) :: kW aa ad t σ.1 rs) 673 [(0, .ref (xB aa)), (1, .ref (ad 0)), (2, .ref os), (3, .int v3), (4, .int v4), (5, .int v5), (6, .int v6), (7, .long v7), (9, .int v9), (14, .int v14), (15, .int v15), (16, .int v16), (17, .int v17), (21, .int v21), (22, .int v22), (23, .int v23), (24, .int v24), (25, .int v25), (26, .int v26), (27, .int v27)] [] := by
  intro σ v3 v4 v5 v6 v7 v9 v14 v15 v16 v17 v21 v22 v23 v24 v25 v26 v27 hf
  unfold fL_law_673 at hf
  refine j_iload (pc := 673) g 18 dL_law_673 rfl ?_
  refine j_iload (pc := 675) g 19 dL_law_675 rfl ?_
  refine j_if_eq (tgt := 707) (pc := 677) g dL_law_677 (by decide) (fun c_677 => ?_) (fun c_677 => ?_)
  · have hf := gx_it c_677 hf
    refine j_iconst (v := 1) (pc := 707) g dL_law_707 (by decide) ?_
    refine j_goto (tgt := 712) (pc := 708) g dL_law_708 (by decide) ?_
    refine j_iand (pc := 712) g dL_law_712 ?_
    refine j_istore (L' := [(26, .int (v26 &&& (1 : Int32))), (0, .ref (xB aa)), (1, .ref (ad 0)), (2, .ref os), (3, .int v3), (4, .int v4), (5, .int v5), (6, .int v6), (7, .long v7), (9, .int v9), (14, .int v14), (15, .int v15), (16, .int v16), (17, .int v17), (21, .int v21), (22, .int v22), (23, .int v23), (24, .int v24), (25, .int v25), (27, .int v27)]) (pc := 713) g dL_law_713 (Nat.le_of_ble_eq_true rfl) rfl ?_
    refine j_sub (pc := 715) g [1, 2, 3, 4, 5, 6, 7, 8, 9, 10, 14, 15, 16, 17, 0, 19] rfl ?_
    exact tL_law_715 hst hxl g hE hk31 σ v3 v4 v5 v6 v7 v9 v14 v21 v22 v23 v24 (v26 &&& (1 : Int32)) v27 hf
  · have hf := gx_if c_677 hf
    refine j_aload_n (pc := 680) g 1 dL_law_680 rfl ?_
    obtain ⟨k_681, hf⟩ := gx_ck hf
    obtain ⟨r681, h_681, hf⟩ := gx_bs hf
    refine lv_executedOrders (pc := 681) g (M := 500000) ⟨(Nat.le_of_ble_eq_true rfl), (Nat.le_of_ble_eq_true rfl)⟩ k_681 h_681 (q0 := 1) rfl rfl (kW_pm aa ad t _ _ _) (kW_pm aa ad t _ _ _).symm ⟨(Nat.le_of_ble_eq_true rfl), (Nat.le_of_ble_eq_true rfl)⟩ (Nat.le_of_ble_eq_true rfl) dL_law_681 ?_
    refine j_iload (pc := 684) g 12 dL_law_684 rfl ?_
    refine j_iload (pc := 686) g 15 dL_law_686 rfl ?_
    refine j_iadd (pc := 688) g dL_law_688 ?_
    refine j_icmp_ne (tgt := 711) (pc := 689) g dL_law_689 (by decide) (fun c_689 => ?_) (fun c_689 => ?_)
    · have hf := gx_if c_689 hf
      refine j_iconst (v := 0) (pc := 711) g dL_law_711 (by decide) ?_
      refine j_iand (pc := 712) g dL_law_712 ?_
      refine j_istore (L' := [(26, .int (v26 &&& (0 : Int32))), (0, .ref (xB aa)), (1, .ref (ad 0)), (2, .ref os), (3, .int v3), (4, .int v4), (5, .int v5), (6, .int v6), (7, .long v7), (9, .int v9), (14, .int v14), (15, .int v15), (16, .int v16), (17, .int v17), (21, .int v21), (22, .int v22), (23, .int v23), (24, .int v24), (25, .int v25), (27, .int v27)]) (pc := 713) g dL_law_713 (Nat.le_of_ble_eq_true rfl) rfl ?_
      refine j_sub (pc := 715) g [1, 2, 3, 4, 5, 6, 7, 8, 9, 10, 14, 15, 16, 17, 0, 19] rfl ?_
      exact tL_law_715 hst hxl g hE hk31 σ v3 v4 v5 v6 v7 v9 v14 v21 v22 v23 v24 (v26 &&& (0 : Int32)) v27 hf
    · have hf := gx_it c_689 hf
      refine j_aload_n (pc := 692) g 1 dL_law_692 rfl ?_
      obtain ⟨k_693, hf⟩ := gx_ck hf
      obtain ⟨r693, h_693, hf⟩ := gx_bs hf
      refine lv_orderCount (pc := 693) g (M := 500000) ⟨(Nat.le_of_ble_eq_true rfl), (Nat.le_of_ble_eq_true rfl)⟩ k_693 h_693 (q0 := 1) rfl rfl (kW_pm aa ad t _ _ _) (kW_pm aa ad t _ _ _).symm ⟨(Nat.le_of_ble_eq_true rfl), (Nat.le_of_ble_eq_true rfl)⟩ (Nat.le_of_ble_eq_true rfl) dL_law_693 ?_
      refine j_iload (pc := 696) g 10 dL_law_696 rfl ?_
      refine j_iload (pc := 698) g 17 dL_law_698 rfl ?_
      refine j_iload (pc := 700) g 11 dL_law_700 rfl ?_
      refine j_isub (pc := 702) g dL_law_702 ?_
      refine j_isub (pc := 703) g dL_law_703 ?_
      refine j_icmp_ne (tgt := 711) (pc := 704) g dL_law_704 (by decide) (fun c_704 => ?_) (fun c_704 => ?_)
      · have hf := gx_if c_704 hf
        refine j_iconst (v := 0) (pc := 711) g dL_law_711 (by decide) ?_
        refine j_iand (pc := 712) g dL_law_712 ?_
        refine j_istore (L' := [(26, .int (v26 &&& (0 : Int32))), (0, .ref (xB aa)), (1, .ref (ad 0)), (2, .ref os), (3, .int v3), (4, .int v4), (5, .int v5), (6, .int v6), (7, .long v7), (9, .int v9), (14, .int v14), (15, .int v15), (16, .int v16), (17, .int v17), (21, .int v21), (22, .int v22), (23, .int v23), (24, .int v24), (25, .int v25), (27, .int v27)]) (pc := 713) g dL_law_713 (Nat.le_of_ble_eq_true rfl) rfl ?_
        refine j_sub (pc := 715) g [1, 2, 3, 4, 5, 6, 7, 8, 9, 10, 14, 15, 16, 17, 0, 19] rfl ?_
        exact tL_law_715 hst hxl g hE hk31 σ v3 v4 v5 v6 v7 v9 v14 v21 v22 v23 v24 (v26 &&& (0 : Int32)) v27 hf
      · have hf := gx_it c_704 hf
        refine j_iconst (v := 1) (pc := 707) g dL_law_707 (by decide) ?_
        refine j_goto (tgt := 712) (pc := 708) g dL_law_708 (by decide) ?_
        refine j_iand (pc := 712) g dL_law_712 ?_
        refine j_istore (L' := [(26, .int (v26 &&& (1 : Int32))), (0, .ref (xB aa)), (1, .ref (ad 0)), (2, .ref os), (3, .int v3), (4, .int v4), (5, .int v5), (6, .int v6), (7, .long v7), (9, .int v9), (14, .int v14), (15, .int v15), (16, .int v16), (17, .int v17), (21, .int v21), (22, .int v22), (23, .int v23), (24, .int v24), (25, .int v25), (27, .int v27)]) (pc := 713) g dL_law_713 (Nat.le_of_ble_eq_true rfl) rfl ?_
        refine j_sub (pc := 715) g [1, 2, 3, 4, 5, 6, 7, 8, 9, 10, 14, 15, 16, 17, 0, 19] rfl ?_
        exact tL_law_715 hst hxl g hE hk31 σ v3 v4 v5 v6 v7 v9 v14 v21 v22 v23 v24 (v26 &&& (1 : Int32)) v27 hf
set_option maxRecDepth 100000 in
set_option maxHeartbeats 8000000 in
theorem tL_law_670 {D : va_G} {t : Nat → ClassId} {aa : gx_AA} {l : Launch} {J : gx_J} {ad : Nat → Nat} {rs : va_W} {os : Nat} {k31 : LwT → Int32 → Int32 → Int32 → Int32 → Option (Int32 × LwT)} {q : (Int32 × LwT)} (hst : l.stackTraces = false) (hxl : xL aa < 2 ^ 31) (g : gx_G D t (gx_E0 aa) l room_1 cL_law RL 28 J) (hE : ∀ (v : Int32) (σ : LwT) (pc : Nat) (L : List (Nat × Value)), some (v, σ) = some q → σ.2.1 ≤ 500000 → decode cL_law pc = .ok (.ireturn, 1) → narrow .boolean (.int v) = .int v → J σ.2.1 (6 * σ.2.1) ((os, .inl (t 4, 70, .inr (.inl σ.2.2))) :: kW aa ad t σ.1 rs) pc L [.int v]) (hk31 : ∀ (σ : LwT) (v3 : Int32) (v4 : Int32) (v5 : Int32) (v6 : Int32), k31 σ v3 v4 v5 v6 = some q → J σ.2.1 (6 * σ.2.1) ((os, .inl (t 4, 70, .inr (.inl σ.2.2))) :: kW aa ad t σ.1 rs) 31 [(0, .ref (xB aa)), (1, .ref (ad 0)), (2, .ref os), (3, .int v3), (4, .int v4), (5, .int v5), (6, .int v6)] []) : ∀ (σ : LwT) (v3 : Int32) (v4 : Int32) (v5 : Int32) (v6 : Int32) (v7 : Int64) (v9 : Int32) (v14 : Int32) (v15 : Int32) (v16 : Int32) (v17 : Int32) (v21 : Int32) (v22 : Int32) (v23 : Int32) (v24 : Int32) (v25 : Int32) (v26 : Int32), fL_law_670 aa k31 σ v3 v4 v5 v6 v7 v9 v14 v15 v16 v17 v21 v22 v23 v24 v25 v26 = some q → J σ.2.1 (6 * σ.2.1) ((os, .inl (t 4, 70, .inr (.inl σ.2.2))) :: kW aa ad t σ.1 rs) 670 [(0, .ref (xB aa)), (1, .ref (ad 0)), (2, .ref os), (3, .int v3), (4, .int v4), (5, .int v5), (6, .int v6), (7, .long v7), (9, .int v9), (14, .int v14), (15, .int v15), (16, .int v16), (17, .int v17), (21, .int v21), (22, .int v22), (23, .int v23), (24, .int v24), (25, .int v25), (26, .int v26)] [] := by
  intro σ v3 v4 v5 v6 v7 v9 v14 v15 v16 v17 v21 v22 v23 v24 v25 v26 hf
  unfold fL_law_670 at hf
  refine j_iconst (v := 0) (pc := 670) g dL_law_670 (by decide) ?_
  refine j_istore (L' := [(27, .int (0 : Int32)), (0, .ref (xB aa)), (1, .ref (ad 0)), (2, .ref os), (3, .int v3), (4, .int v4), (5, .int v5), (6, .int v6), (7, .long v7), (9, .int v9), (14, .int v14), (15, .int v15), (16, .int v16), (17, .int v17), (21, .int v21), (22, .int v22), (23, .int v23), (24, .int v24), (25, .int v25), (26, .int v26)]) (pc := 671) g dL_law_671 (Nat.le_of_ble_eq_true rfl) rfl ?_
  refine j_sub (pc := 673) g [1, 2, 3, 4, 5, 6, 7, 8, 9, 10, 11, 12, 13, 14, 15, 16, 17, 18, 19, 0] rfl ?_
  exact tL_law_673 hst hxl g hE hk31 σ v3 v4 v5 v6 v7 v9 v14 v15 v16 v17 v21 v22 v23 v24 v25 v26 (0 : Int32) hf
set_option maxRecDepth 100000 in
set_option maxHeartbeats 8000000 in
theorem tL_law_647 {D : va_G} {t : Nat → ClassId} {aa : gx_AA} {l : Launch} {J : gx_J} {ad : Nat → Nat} {rs : va_W} {os : Nat} {k31 : LwT → Int32 → Int32 → Int32 → Int32 → Option (Int32 × LwT)} {q : (Int32 × LwT)} (hst : l.stackTraces = false) (hxl : xL aa < 2 ^ 31) (g : gx_G D t (gx_E0 aa) l room_1 cL_law RL 28 J) (hE : ∀ (v : Int32) (σ : LwT) (pc : Nat) (L : List (Nat × Value)), some (v, σ) = some q → σ.2.1 ≤ 500000 → decode cL_law pc = .ok (.ireturn, 1) → narrow .boolean (.int v) = .int v → J σ.2.1 (6 * σ.2.1) ((os, .inl (t 4, 70, .inr (.inl σ.2.2))) :: kW aa ad t σ.1 rs) pc L [.int v]) (hk31 : ∀ (σ : LwT) (v3 : Int32) (v4 : Int32) (v5 : Int32) (v6 : Int32), k31 σ v3 v4 v5 v6 = some q → J σ.2.1 (6 * σ.2.1) ((os, .inl (t 4, 70, .inr (.inl σ.2.2))) :: kW aa ad t σ.1 rs) 31 [(0, .ref (xB aa)), (1, .ref (ad 0)), (2, .ref os), (3, .int v3), (4, .int v4), (5, .int v5), (6, .int v6)] []) : ∀ (σ : LwT) (v3 : Int32) (v4 : Int32) (v5 : Int32) (v6 : Int32) (v7 : Int64) (v9 : Int32) (v10 : Int32) (v14 : Int32) (v15 : Int32) (v16 : Int32) (v17 : Int32) (v21 : Int32) (v22 : Int32) (v23 : Int32) (v24 : Int32) (v25 : Int32) (v26 : Int32), fL_law_647 aa k31 σ v3 v4 v5 v6 v7 v9 v10 v14 v15 v16 v17 v21 v22 v23 v24 v25 v26 = some q → J σ.2.1 (6 * σ.2.1) ((os, .inl (t 4, 70, .inr (.inl σ.2.2))) :: kW aa ad t σ.1 rs) 647 [(0, .ref (xB aa)), (1, .ref (ad 0)), (2, .ref os), (3, .int v3), (4, .int v4), (5, .int v5), (6, .int v6), (7, .long v7), (9, .int v9), (10, .int v10), (14, .int v14), (15, .int v15), (16, .int v16), (17, .int v17), (21, .int v21), (22, .int v22), (23, .int v23), (24, .int v24), (25, .int v25), (26, .int v26)] [] := by
  intro σ v3 v4 v5 v6 v7 v9 v10 v14 v15 v16 v17 v21 v22 v23 v24 v25 v26 hf
  unfold fL_law_647 at hf
  refine j_iload (pc := 647) g 17 dL_law_647 rfl ?_
  refine j_if_eq (tgt := 670) (pc := 649) g dL_law_649 (by decide) (fun c_649 => ?_) (fun c_649 => ?_)
  · have hf := gx_it c_649 hf
    refine j_sub (pc := 670) g [0, 1, 2, 3, 4, 5, 6, 7, 8, 10, 11, 12, 13, 14, 15, 16, 17, 18, 19] rfl ?_
    exact tL_law_670 hst hxl g hE hk31 σ v3 v4 v5 v6 v7 v9 v14 v15 v16 v17 v21 v22 v23 v24 v25 v26 hf
  · have hf := gx_if c_649 hf
    refine j_iload (pc := 652) g 9 dL_law_652 rfl ?_
    refine j_bipush (v := 30) (pc := 654) g dL_law_654 (by decide) ?_
    refine j_icmp_le (tgt := 670) (pc := 656) g dL_law_656 (by decide) (fun c_656 => ?_) (fun c_656 => ?_)
    · have hf := gx_it c_656 hf
      refine j_sub (pc := 670) g [0, 1, 2, 3, 4, 5, 6, 7, 8, 10, 11, 12, 13, 14, 15, 16, 17, 18, 19] rfl ?_
      exact tL_law_670 hst hxl g hE hk31 σ v3 v4 v5 v6 v7 v9 v14 v15 v16 v17 v21 v22 v23 v24 v25 v26 hf
    · have hf := gx_if c_656 hf
      refine j_iload (pc := 659) g 9 dL_law_659 rfl ?_
      refine j_bipush (v := 40) (pc := 661) g dL_law_661 (by decide) ?_
      refine j_icmp_ge (tgt := 670) (pc := 663) g dL_law_663 (by decide) (fun c_663 => ?_) (fun c_663 => ?_)
      · have hf := gx_it c_663 hf
        refine j_sub (pc := 670) g [0, 1, 2, 3, 4, 5, 6, 7, 8, 10, 11, 12, 13, 14, 15, 16, 17, 18, 19] rfl ?_
        exact tL_law_670 hst hxl g hE hk31 σ v3 v4 v5 v6 v7 v9 v14 v15 v16 v17 v21 v22 v23 v24 v25 v26 hf
      · have hf := gx_if c_663 hf
        refine j_iconst (v := 1) (pc := 666) g dL_law_666 (by decide) ?_
        refine j_goto (tgt := 671) (pc := 667) g dL_law_667 (by decide) ?_
        refine j_istore (L' := [(27, .int (1 : Int32)), (0, .ref (xB aa)), (1, .ref (ad 0)), (2, .ref os), (3, .int v3), (4, .int v4), (5, .int v5), (6, .int v6), (7, .long v7), (9, .int v9), (10, .int v10), (14, .int v14), (15, .int v15), (16, .int v16), (17, .int v17), (21, .int v21), (22, .int v22), (23, .int v23), (24, .int v24), (25, .int v25), (26, .int v26)]) (pc := 671) g dL_law_671 (Nat.le_of_ble_eq_true rfl) rfl ?_
        refine j_sub (pc := 673) g [1, 2, 3, 4, 5, 6, 7, 8, 9, 11, 12, 13, 14, 15, 16, 17, 18, 19, 20, 0] rfl ?_
        exact tL_law_673 hst hxl g hE hk31 σ v3 v4 v5 v6 v7 v9 v14 v15 v16 v17 v21 v22 v23 v24 v25 v26 (1 : Int32) hf
set_option maxRecDepth 100000 in
set_option maxHeartbeats 8000000 in
theorem tL_law_589 {D : va_G} {t : Nat → ClassId} {aa : gx_AA} {l : Launch} {J : gx_J} {ad : Nat → Nat} {rs : va_W} {os : Nat} {k31 : LwT → Int32 → Int32 → Int32 → Int32 → Option (Int32 × LwT)} {q : (Int32 × LwT)} (hst : l.stackTraces = false) (hxl : xL aa < 2 ^ 31) (g : gx_G D t (gx_E0 aa) l room_1 cL_law RL 28 J) (hE : ∀ (v : Int32) (σ : LwT) (pc : Nat) (L : List (Nat × Value)), some (v, σ) = some q → σ.2.1 ≤ 500000 → decode cL_law pc = .ok (.ireturn, 1) → narrow .boolean (.int v) = .int v → J σ.2.1 (6 * σ.2.1) ((os, .inl (t 4, 70, .inr (.inl σ.2.2))) :: kW aa ad t σ.1 rs) pc L [.int v]) (hk31 : ∀ (σ : LwT) (v3 : Int32) (v4 : Int32) (v5 : Int32) (v6 : Int32), k31 σ v3 v4 v5 v6 = some q → J σ.2.1 (6 * σ.2.1) ((os, .inl (t 4, 70, .inr (.inl σ.2.2))) :: kW aa ad t σ.1 rs) 31 [(0, .ref (xB aa)), (1, .ref (ad 0)), (2, .ref os), (3, .int v3), (4, .int v4), (5, .int v5), (6, .int v6)] []) : ∀ (σ : LwT) (v3 : Int32) (v4 : Int32) (v5 : Int32) (v6 : Int32) (v7 : Int64) (v9 : Int32) (v10 : Int32) (v12 : Int32) (v13 : Int32) (v14 : Int32) (v15 : Int32) (v16 : Int32) (v17 : Int32) (v21 : Int32) (v22 : Int32) (v23 : Int32) (v24 : Int32) (v25 : Int32) (v26 : Int32), fL_law_589 aa k31 σ v3 v4 v5 v6 v7 v9 v10 v12 v13 v14 v15 v16 v17 v21 v22 v23 v24 v25 v26 = some q → J σ.2.1 (6 * σ.2.1) ((os, .inl (t 4, 70, .inr (.inl σ.2.2))) :: kW aa ad t σ.1 rs) 589 [(0, .ref (xB aa)), (1, .ref (ad 0)), (2, .ref os), (3, .int v3), (4, .int v4), (5, .int v5), (6, .int v6), (7, .long v7), (9, .int v9), (10, .int v10), (12, .int v12), (13, .int v13), (14, .int v14), (15, .int v15), (16, .int v16), (17, .int v17), (21, .int v21), (22, .int v22), (23, .int v23), (24, .int v24), (25, .int v25), (26, .int v26)] [] := by
  intro σ v3 v4 v5 v6 v7 v9 v10 v12 v13 v14 v15 v16 v17 v21 v22 v23 v24 v25 v26 hf
  unfold fL_law_589 at hf
  refine j_iload (pc := 589) g 21 dL_law_589 rfl ?_
  refine j_iload (pc := 591) g 19 dL_law_591 rfl ?_
  refine j_if_eq (tgt := 639) (pc := 593) g dL_law_593 (by decide) (fun c_593 => ?_) (fun c_593 => ?_)
  · have hf := gx_it c_593 hf
    refine j_iconst (v := 1) (pc := 639) g dL_law_639 (by decide) ?_
    refine j_goto (tgt := 644) (pc := 640) g dL_law_640 (by decide) ?_
    refine j_iand (pc := 644) g dL_law_644 ?_
    refine j_istore (L' := [(26, .int (v26 &&& (1 : Int32))), (0, .ref (xB aa)), (1, .ref (ad 0)), (2, .ref os), (3, .int v3), (4, .int v4), (5, .int v5), (6, .int v6), (7, .long v7), (9, .int v9), (10, .int v10), (12, .int v12), (13, .int v13), (14, .int v14), (15, .int v15), (16, .int v16), (17, .int v17), (21, .int v21), (22, .int v22), (23, .int v23), (24, .int v24), (25, .int v25)]) (pc := 645) g dL_law_645 (Nat.le_of_ble_eq_true rfl) rfl ?_
    refine j_sub (pc := 647) g [1, 2, 3, 4, 5, 6, 7, 8, 9, 10, 13, 14, 15, 16, 17, 18, 19, 20, 21, 0] rfl ?_
    exact tL_law_647 hst hxl g hE hk31 σ v3 v4 v5 v6 v7 v9 v10 v14 v15 v16 v17 v21 v22 v23 v24 v25 (v26 &&& (1 : Int32)) hf
  · have hf := gx_if c_593 hf
    refine j_iload (pc := 596) g 9 dL_law_596 rfl ?_
    refine j_bipush (v := 16) (pc := 598) g dL_law_598 (by decide) ?_
    refine j_icmp_lt (tgt := 639) (pc := 600) g dL_law_600 (by decide) (fun c_600 => ?_) (fun c_600 => ?_)
    · have hf := gx_it c_600 hf
      refine j_iconst (v := 1) (pc := 639) g dL_law_639 (by decide) ?_
      refine j_goto (tgt := 644) (pc := 640) g dL_law_640 (by decide) ?_
      refine j_iand (pc := 644) g dL_law_644 ?_
      refine j_istore (L' := [(26, .int (v26 &&& (1 : Int32))), (0, .ref (xB aa)), (1, .ref (ad 0)), (2, .ref os), (3, .int v3), (4, .int v4), (5, .int v5), (6, .int v6), (7, .long v7), (9, .int v9), (10, .int v10), (12, .int v12), (13, .int v13), (14, .int v14), (15, .int v15), (16, .int v16), (17, .int v17), (21, .int v21), (22, .int v22), (23, .int v23), (24, .int v24), (25, .int v25)]) (pc := 645) g dL_law_645 (Nat.le_of_ble_eq_true rfl) rfl ?_
      refine j_sub (pc := 647) g [1, 2, 3, 4, 5, 6, 7, 8, 9, 10, 13, 14, 15, 16, 17, 18, 19, 20, 21, 0] rfl ?_
      exact tL_law_647 hst hxl g hE hk31 σ v3 v4 v5 v6 v7 v9 v10 v14 v15 v16 v17 v21 v22 v23 v24 v25 (v26 &&& (1 : Int32)) hf
    · have hf := gx_if c_600 hf
      refine j_iload (pc := 603) g 9 dL_law_603 rfl ?_
      refine j_bipush (v := 26) (pc := 605) g dL_law_605 (by decide) ?_
      refine j_icmp_gt (tgt := 639) (pc := 607) g dL_law_607 (by decide) (fun c_607 => ?_) (fun c_607 => ?_)
      · have hf := gx_it c_607 hf
        refine j_iconst (v := 1) (pc := 639) g dL_law_639 (by decide) ?_
        refine j_goto (tgt := 644) (pc := 640) g dL_law_640 (by decide) ?_
        refine j_iand (pc := 644) g dL_law_644 ?_
        refine j_istore (L' := [(26, .int (v26 &&& (1 : Int32))), (0, .ref (xB aa)), (1, .ref (ad 0)), (2, .ref os), (3, .int v3), (4, .int v4), (5, .int v5), (6, .int v6), (7, .long v7), (9, .int v9), (10, .int v10), (12, .int v12), (13, .int v13), (14, .int v14), (15, .int v15), (16, .int v16), (17, .int v17), (21, .int v21), (22, .int v22), (23, .int v23), (24, .int v24), (25, .int v25)]) (pc := 645) g dL_law_645 (Nat.le_of_ble_eq_true rfl) rfl ?_
        refine j_sub (pc := 647) g [1, 2, 3, 4, 5, 6, 7, 8, 9, 10, 13, 14, 15, 16, 17, 18, 19, 20, 21, 0] rfl ?_
        exact tL_law_647 hst hxl g hE hk31 σ v3 v4 v5 v6 v7 v9 v10 v14 v15 v16 v17 v21 v22 v23 v24 v25 (v26 &&& (1 : Int32)) hf
      · have hf := gx_if c_607 hf
        refine j_iload (pc := 610) g 18 dL_law_610 rfl ?_
        refine j_iload (pc := 612) g 13 dL_law_612 rfl ?_
        refine j_icmp_ne (tgt := 643) (pc := 614) g dL_law_614 (by decide) (fun c_614 => ?_) (fun c_614 => ?_)
        · have hf := gx_if c_614 hf
          refine j_iconst (v := 0) (pc := 643) g dL_law_643 (by decide) ?_
          refine j_iand (pc := 644) g dL_law_644 ?_
          refine j_istore (L' := [(26, .int (v26 &&& (0 : Int32))), (0, .ref (xB aa)), (1, .ref (ad 0)), (2, .ref os), (3, .int v3), (4, .int v4), (5, .int v5), (6, .int v6), (7, .long v7), (9, .int v9), (10, .int v10), (12, .int v12), (13, .int v13), (14, .int v14), (15, .int v15), (16, .int v16), (17, .int v17), (21, .int v21), (22, .int v22), (23, .int v23), (24, .int v24), (25, .int v25)]) (pc := 645) g dL_law_645 (Nat.le_of_ble_eq_true rfl) rfl ?_
          refine j_sub (pc := 647) g [1, 2, 3, 4, 5, 6, 7, 8, 9, 10, 13, 14, 15, 16, 17, 18, 19, 20, 21, 0] rfl ?_
          exact tL_law_647 hst hxl g hE hk31 σ v3 v4 v5 v6 v7 v9 v10 v14 v15 v16 v17 v21 v22 v23 v24 v25 (v26 &&& (0 : Int32)) hf
        · have hf := gx_it c_614 hf
          refine j_aload_n (pc := 617) g 1 dL_law_617 rfl ?_
          refine j_iload (pc := 618) g 18 dL_law_618 rfl ?_
          obtain ⟨k_620, hf⟩ := gx_ck hf
          obtain ⟨r620, h_620, hf⟩ := gx_bs hf
          refine lc_holder (pc := 620) g (M := 500000) ⟨(Nat.le_of_ble_eq_true rfl), (Nat.le_of_ble_eq_true rfl)⟩ hst k_620 h_620 (kW_pm aa ad t _ _ _) (kW_pm aa ad t _ _ _).symm ⟨(Nat.le_of_ble_eq_true rfl), (Nat.le_of_ble_eq_true rfl)⟩ (Nat.le_of_ble_eq_true rfl) dL_law_620 ?_
          refine j_iload (pc := 623) g 11 dL_law_623 rfl ?_
          refine j_icmp_ne (tgt := 643) (pc := 625) g dL_law_625 (by decide) (fun c_625 => ?_) (fun c_625 => ?_)
          · have hf := gx_if c_625 hf
            refine j_iconst (v := 0) (pc := 643) g dL_law_643 (by decide) ?_
            refine j_iand (pc := 644) g dL_law_644 ?_
            refine j_istore (L' := [(26, .int (v26 &&& (0 : Int32))), (0, .ref (xB aa)), (1, .ref (ad 0)), (2, .ref os), (3, .int v3), (4, .int v4), (5, .int v5), (6, .int v6), (7, .long v7), (9, .int v9), (10, .int v10), (12, .int v12), (13, .int v13), (14, .int v14), (15, .int v15), (16, .int v16), (17, .int v17), (21, .int v21), (22, .int v22), (23, .int v23), (24, .int v24), (25, .int v25)]) (pc := 645) g dL_law_645 (Nat.le_of_ble_eq_true rfl) rfl ?_
            refine j_sub (pc := 647) g [1, 2, 3, 4, 5, 6, 7, 8, 9, 10, 13, 14, 15, 16, 17, 18, 19, 20, 21, 0] rfl ?_
            exact tL_law_647 hst hxl g hE hk31 (r620.2, σ.2.1 + 1, σ.2.2) v3 v4 v5 v6 v7 v9 v10 v14 v15 v16 v17 v21 v22 v23 v24 v25 (v26 &&& (0 : Int32)) hf
          · have hf := gx_it c_625 hf
            refine j_aload_n (pc := 628) g 1 dL_law_628 rfl ?_
            refine j_iload (pc := 629) g 18 dL_law_629 rfl ?_
            obtain ⟨k_631, hf⟩ := gx_ck hf
            obtain ⟨r631, h_631, hf⟩ := gx_bs hf
            refine lc_target (pc := 631) g (M := 500000) ⟨(Nat.le_of_ble_eq_true rfl), (Nat.le_of_ble_eq_true rfl)⟩ hst k_631 h_631 (kW_pm aa ad t _ _ _) (kW_pm aa ad t _ _ _).symm ⟨(Nat.le_of_ble_eq_true rfl), (Nat.le_of_ble_eq_true rfl)⟩ (Nat.le_of_ble_eq_true rfl) dL_law_631 ?_
            refine j_iload (pc := 634) g 10 dL_law_634 rfl ?_
            refine j_icmp_ne (tgt := 643) (pc := 636) g dL_law_636 (by decide) (fun c_636 => ?_) (fun c_636 => ?_)
            · have hf := gx_if c_636 hf
              refine j_iconst (v := 0) (pc := 643) g dL_law_643 (by decide) ?_
              refine j_iand (pc := 644) g dL_law_644 ?_
              refine j_istore (L' := [(26, .int (v26 &&& (0 : Int32))), (0, .ref (xB aa)), (1, .ref (ad 0)), (2, .ref os), (3, .int v3), (4, .int v4), (5, .int v5), (6, .int v6), (7, .long v7), (9, .int v9), (10, .int v10), (12, .int v12), (13, .int v13), (14, .int v14), (15, .int v15), (16, .int v16), (17, .int v17), (21, .int v21), (22, .int v22), (23, .int v23), (24, .int v24), (25, .int v25)]) (pc := 645) g dL_law_645 (Nat.le_of_ble_eq_true rfl) rfl ?_
              refine j_sub (pc := 647) g [1, 2, 3, 4, 5, 6, 7, 8, 9, 10, 13, 14, 15, 16, 17, 18, 19, 20, 21, 0] rfl ?_
              exact tL_law_647 hst hxl g hE hk31 (r631.2, (σ.2.1 + 1) + 1, σ.2.2) v3 v4 v5 v6 v7 v9 v10 v14 v15 v16 v17 v21 v22 v23 v24 v25 (v26 &&& (0 : Int32)) hf
            · have hf := gx_it c_636 hf
              refine j_iconst (v := 1) (pc := 639) g dL_law_639 (by decide) ?_
              refine j_goto (tgt := 644) (pc := 640) g dL_law_640 (by decide) ?_
              refine j_iand (pc := 644) g dL_law_644 ?_
              refine j_istore (L' := [(26, .int (v26 &&& (1 : Int32))), (0, .ref (xB aa)), (1, .ref (ad 0)), (2, .ref os), (3, .int v3), (4, .int v4), (5, .int v5), (6, .int v6), (7, .long v7), (9, .int v9), (10, .int v10), (12, .int v12), (13, .int v13), (14, .int v14), (15, .int v15), (16, .int v16), (17, .int v17), (21, .int v21), (22, .int v22), (23, .int v23), (24, .int v24), (25, .int v25)]) (pc := 645) g dL_law_645 (Nat.le_of_ble_eq_true rfl) rfl ?_
              refine j_sub (pc := 647) g [1, 2, 3, 4, 5, 6, 7, 8, 9, 10, 13, 14, 15, 16, 17, 18, 19, 20, 21, 0] rfl ?_
              exact tL_law_647 hst hxl g hE hk31 (r631.2, (σ.2.1 + 1) + 1, σ.2.2) v3 v4 v5 v6 v7 v9 v10 v14 v15 v16 v17 v21 v22 v23 v24 v25 (v26 &&& (1 : Int32)) hf
set_option maxRecDepth 100000 in
set_option maxHeartbeats 8000000 in
theorem tL_law_522 {D : va_G} {t : Nat → ClassId} {aa : gx_AA} {l : Launch} {J : gx_J} {ad : Nat → Nat} {rs : va_W} {os : Nat} {k31 : LwT → Int32 → Int32 → Int32 → Int32 → Option (Int32 × LwT)} {q : (Int32 × LwT)} (hst : l.stackTraces = false) (hxl : xL aa < 2 ^ 31) (g : gx_G D t (gx_E0 aa) l room_1 cL_law RL 28 J) (hE : ∀ (v : Int32) (σ : LwT) (pc : Nat) (L : List (Nat × Value)), some (v, σ) = some q → σ.2.1 ≤ 500000 → decode cL_law pc = .ok (.ireturn, 1) → narrow .boolean (.int v) = .int v → J σ.2.1 (6 * σ.2.1) ((os, .inl (t 4, 70, .inr (.inl σ.2.2))) :: kW aa ad t σ.1 rs) pc L [.int v]) (hk31 : ∀ (σ : LwT) (v3 : Int32) (v4 : Int32) (v5 : Int32) (v6 : Int32), k31 σ v3 v4 v5 v6 = some q → J σ.2.1 (6 * σ.2.1) ((os, .inl (t 4, 70, .inr (.inl σ.2.2))) :: kW aa ad t σ.1 rs) 31 [(0, .ref (xB aa)), (1, .ref (ad 0)), (2, .ref os), (3, .int v3), (4, .int v4), (5, .int v5), (6, .int v6)] []) : ∀ (σ : LwT) (v3 : Int32) (v4 : Int32) (v5 : Int32) (v6 : Int32) (v7 : Int64) (v9 : Int32) (v10 : Int32) (v12 : Int32) (v13 : Int32) (v14 : Int32) (v15 : Int32) (v16 : Int32) (v17 : Int32) (v19 : Int32) (v20 : Int32) (v21 : Int32) (v22 : Int32) (v23 : Int32) (v24 : Int32) (v25 : Int32) (v26 : Int32), fL_law_522 aa k31 σ v3 v4 v5 v6 v7 v9 v10 v12 v13 v14 v15 v16 v17 v19 v20 v21 v22 v23 v24 v25 v26 = some q → J σ.2.1 (6 * σ.2.1) ((os, .inl (t 4, 70, .inr (.inl σ.2.2))) :: kW aa ad t σ.1 rs) 522 [(0, .ref (xB aa)), (1, .ref (ad 0)), (2, .ref os), (3, .int v3), (4, .int v4), (5, .int v5), (6, .int v6), (7, .long v7), (9, .int v9), (10, .int v10), (12, .int v12), (13, .int v13), (14, .int v14), (15, .int v15), (16, .int v16), (17, .int v17), (19, .int v19), (20, .int v20), (21, .int v21), (22, .int v22), (23, .int v23), (24, .int v24), (25, .int v25), (26, .int v26)] [] := by
  intro σ v3 v4 v5 v6 v7 v9 v10 v12 v13 v14 v15 v16 v17 v19 v20 v21 v22 v23 v24 v25 v26 hf
  unfold fL_law_522 at hf
  refine j_iload (pc := 522) g 23 dL_law_522 rfl ?_
  refine j_iload (pc := 524) g 21 dL_law_524 rfl ?_
  refine j_if_eq (tgt := 581) (pc := 526) g dL_law_526 (by decide) (fun c_526 => ?_) (fun c_526 => ?_)
  · have hf := gx_it c_526 hf
    refine j_iconst (v := 1) (pc := 581) g dL_law_581 (by decide) ?_
    refine j_goto (tgt := 586) (pc := 582) g dL_law_582 (by decide) ?_
    refine j_iand (pc := 586) g dL_law_586 ?_
    refine j_istore (L' := [(26, .int (v26 &&& (1 : Int32))), (0, .ref (xB aa)), (1, .ref (ad 0)), (2, .ref os), (3, .int v3), (4, .int v4), (5, .int v5), (6, .int v6), (7, .long v7), (9, .int v9), (10, .int v10), (12, .int v12), (13, .int v13), (14, .int v14), (15, .int v15), (16, .int v16), (17, .int v17), (19, .int v19), (20, .int v20), (21, .int v21), (22, .int v22), (23, .int v23), (24, .int v24), (25, .int v25)]) (pc := 587) g dL_law_587 (Nat.le_of_ble_eq_true rfl) rfl ?_
    refine j_sub (pc := 589) g [1, 2, 3, 4, 5, 6, 7, 8, 9, 10, 11, 12, 13, 14, 15, 16, 19, 20, 21, 22, 23, 0] rfl ?_
    exact tL_law_589 hst hxl g hE hk31 σ v3 v4 v5 v6 v7 v9 v10 v12 v13 v14 v15 v16 v17 v21 v22 v23 v24 v25 (v26 &&& (1 : Int32)) hf
  · have hf := gx_if c_526 hf
    refine j_iload (pc := 529) g 9 dL_law_529 rfl ?_
    refine j_bipush (v := 14) (pc := 531) g dL_law_531 (by decide) ?_
    refine j_icmp_lt (tgt := 581) (pc := 533) g dL_law_533 (by decide) (fun c_533 => ?_) (fun c_533 => ?_)
    · have hf := gx_it c_533 hf
      refine j_iconst (v := 1) (pc := 581) g dL_law_581 (by decide) ?_
      refine j_goto (tgt := 586) (pc := 582) g dL_law_582 (by decide) ?_
      refine j_iand (pc := 586) g dL_law_586 ?_
      refine j_istore (L' := [(26, .int (v26 &&& (1 : Int32))), (0, .ref (xB aa)), (1, .ref (ad 0)), (2, .ref os), (3, .int v3), (4, .int v4), (5, .int v5), (6, .int v6), (7, .long v7), (9, .int v9), (10, .int v10), (12, .int v12), (13, .int v13), (14, .int v14), (15, .int v15), (16, .int v16), (17, .int v17), (19, .int v19), (20, .int v20), (21, .int v21), (22, .int v22), (23, .int v23), (24, .int v24), (25, .int v25)]) (pc := 587) g dL_law_587 (Nat.le_of_ble_eq_true rfl) rfl ?_
      refine j_sub (pc := 589) g [1, 2, 3, 4, 5, 6, 7, 8, 9, 10, 11, 12, 13, 14, 15, 16, 19, 20, 21, 22, 23, 0] rfl ?_
      exact tL_law_589 hst hxl g hE hk31 σ v3 v4 v5 v6 v7 v9 v10 v12 v13 v14 v15 v16 v17 v21 v22 v23 v24 v25 (v26 &&& (1 : Int32)) hf
    · have hf := gx_if c_533 hf
      refine j_iload (pc := 536) g 9 dL_law_536 rfl ?_
      refine j_bipush (v := 15) (pc := 538) g dL_law_538 (by decide) ?_
      refine j_icmp_gt (tgt := 581) (pc := 540) g dL_law_540 (by decide) (fun c_540 => ?_) (fun c_540 => ?_)
      · have hf := gx_it c_540 hf
        refine j_iconst (v := 1) (pc := 581) g dL_law_581 (by decide) ?_
        refine j_goto (tgt := 586) (pc := 582) g dL_law_582 (by decide) ?_
        refine j_iand (pc := 586) g dL_law_586 ?_
        refine j_istore (L' := [(26, .int (v26 &&& (1 : Int32))), (0, .ref (xB aa)), (1, .ref (ad 0)), (2, .ref os), (3, .int v3), (4, .int v4), (5, .int v5), (6, .int v6), (7, .long v7), (9, .int v9), (10, .int v10), (12, .int v12), (13, .int v13), (14, .int v14), (15, .int v15), (16, .int v16), (17, .int v17), (19, .int v19), (20, .int v20), (21, .int v21), (22, .int v22), (23, .int v23), (24, .int v24), (25, .int v25)]) (pc := 587) g dL_law_587 (Nat.le_of_ble_eq_true rfl) rfl ?_
        refine j_sub (pc := 589) g [1, 2, 3, 4, 5, 6, 7, 8, 9, 10, 11, 12, 13, 14, 15, 16, 19, 20, 21, 22, 23, 0] rfl ?_
        exact tL_law_589 hst hxl g hE hk31 σ v3 v4 v5 v6 v7 v9 v10 v12 v13 v14 v15 v16 v17 v21 v22 v23 v24 v25 (v26 &&& (1 : Int32)) hf
      · have hf := gx_if c_540 hf
        refine j_iload (pc := 543) g 20 dL_law_543 rfl ?_
        refine j_iload (pc := 545) g 16 dL_law_545 rfl ?_
        refine j_icmp_ne (tgt := 585) (pc := 547) g dL_law_547 (by decide) (fun c_547 => ?_) (fun c_547 => ?_)
        · have hf := gx_if c_547 hf
          refine j_iconst (v := 0) (pc := 585) g dL_law_585 (by decide) ?_
          refine j_iand (pc := 586) g dL_law_586 ?_
          refine j_istore (L' := [(26, .int (v26 &&& (0 : Int32))), (0, .ref (xB aa)), (1, .ref (ad 0)), (2, .ref os), (3, .int v3), (4, .int v4), (5, .int v5), (6, .int v6), (7, .long v7), (9, .int v9), (10, .int v10), (12, .int v12), (13, .int v13), (14, .int v14), (15, .int v15), (16, .int v16), (17, .int v17), (19, .int v19), (20, .int v20), (21, .int v21), (22, .int v22), (23, .int v23), (24, .int v24), (25, .int v25)]) (pc := 587) g dL_law_587 (Nat.le_of_ble_eq_true rfl) rfl ?_
          refine j_sub (pc := 589) g [1, 2, 3, 4, 5, 6, 7, 8, 9, 10, 11, 12, 13, 14, 15, 16, 19, 20, 21, 22, 23, 0] rfl ?_
          exact tL_law_589 hst hxl g hE hk31 σ v3 v4 v5 v6 v7 v9 v10 v12 v13 v14 v15 v16 v17 v21 v22 v23 v24 v25 (v26 &&& (0 : Int32)) hf
        · have hf := gx_it c_547 hf
          refine j_aload_n (pc := 550) g 1 dL_law_550 rfl ?_
          obtain ⟨k_551, hf⟩ := gx_ck hf
          obtain ⟨r551, h_551, hf⟩ := gx_bs hf
          refine lv_officerCount (pc := 551) g (M := 500000) ⟨(Nat.le_of_ble_eq_true rfl), (Nat.le_of_ble_eq_true rfl)⟩ k_551 h_551 (q0 := 1) rfl rfl (kW_pm aa ad t _ _ _) (kW_pm aa ad t _ _ _).symm ⟨(Nat.le_of_ble_eq_true rfl), (Nat.le_of_ble_eq_true rfl)⟩ (Nat.le_of_ble_eq_true rfl) dL_law_551 ?_
          refine j_iload (pc := 554) g 17 dL_law_554 rfl ?_
          refine j_iconst (v := 1) (pc := 556) g dL_law_556 (by decide) ?_
          refine j_isub (pc := 557) g dL_law_557 ?_
          refine j_icmp_ne (tgt := 585) (pc := 558) g dL_law_558 (by decide) (fun c_558 => ?_) (fun c_558 => ?_)
          · have hf := gx_if c_558 hf
            refine j_iconst (v := 0) (pc := 585) g dL_law_585 (by decide) ?_
            refine j_iand (pc := 586) g dL_law_586 ?_
            refine j_istore (L' := [(26, .int (v26 &&& (0 : Int32))), (0, .ref (xB aa)), (1, .ref (ad 0)), (2, .ref os), (3, .int v3), (4, .int v4), (5, .int v5), (6, .int v6), (7, .long v7), (9, .int v9), (10, .int v10), (12, .int v12), (13, .int v13), (14, .int v14), (15, .int v15), (16, .int v16), (17, .int v17), (19, .int v19), (20, .int v20), (21, .int v21), (22, .int v22), (23, .int v23), (24, .int v24), (25, .int v25)]) (pc := 587) g dL_law_587 (Nat.le_of_ble_eq_true rfl) rfl ?_
            refine j_sub (pc := 589) g [1, 2, 3, 4, 5, 6, 7, 8, 9, 10, 11, 12, 13, 14, 15, 16, 19, 20, 21, 22, 23, 0] rfl ?_
            exact tL_law_589 hst hxl g hE hk31 σ v3 v4 v5 v6 v7 v9 v10 v12 v13 v14 v15 v16 v17 v21 v22 v23 v24 v25 (v26 &&& (0 : Int32)) hf
          · have hf := gx_it c_558 hf
            refine j_aload_n (pc := 561) g 1 dL_law_561 rfl ?_
            refine j_iload (pc := 562) g 10 dL_law_562 rfl ?_
            obtain ⟨k_564, hf⟩ := gx_ck hf
            obtain ⟨r564, h_564, hf⟩ := gx_bs hf
            refine lc_rank (pc := 564) g (M := 500000) ⟨(Nat.le_of_ble_eq_true rfl), (Nat.le_of_ble_eq_true rfl)⟩ hst k_564 h_564 (kW_pm aa ad t _ _ _) (kW_pm aa ad t _ _ _).symm ⟨(Nat.le_of_ble_eq_true rfl), (Nat.le_of_ble_eq_true rfl)⟩ (Nat.le_of_ble_eq_true rfl) dL_law_564 ?_
            refine j_bipush (v := -77) (pc := 567) g dL_law_567 (by decide) ?_
            refine j_icmp_ne (tgt := 585) (pc := 569) g dL_law_569 (by decide) (fun c_569 => ?_) (fun c_569 => ?_)
            · have hf := gx_if c_569 hf
              refine j_iconst (v := 0) (pc := 585) g dL_law_585 (by decide) ?_
              refine j_iand (pc := 586) g dL_law_586 ?_
              refine j_istore (L' := [(26, .int (v26 &&& (0 : Int32))), (0, .ref (xB aa)), (1, .ref (ad 0)), (2, .ref os), (3, .int v3), (4, .int v4), (5, .int v5), (6, .int v6), (7, .long v7), (9, .int v9), (10, .int v10), (12, .int v12), (13, .int v13), (14, .int v14), (15, .int v15), (16, .int v16), (17, .int v17), (19, .int v19), (20, .int v20), (21, .int v21), (22, .int v22), (23, .int v23), (24, .int v24), (25, .int v25)]) (pc := 587) g dL_law_587 (Nat.le_of_ble_eq_true rfl) rfl ?_
              refine j_sub (pc := 589) g [1, 2, 3, 4, 5, 6, 7, 8, 9, 10, 11, 12, 13, 14, 15, 16, 19, 20, 21, 22, 23, 0] rfl ?_
              exact tL_law_589 hst hxl g hE hk31 (r564.2, σ.2.1 + 1, σ.2.2) v3 v4 v5 v6 v7 v9 v10 v12 v13 v14 v15 v16 v17 v21 v22 v23 v24 v25 (v26 &&& (0 : Int32)) hf
            · have hf := gx_it c_569 hf
              refine j_aload_n (pc := 572) g 1 dL_law_572 rfl ?_
              refine j_iload (pc := 573) g 10 dL_law_573 rfl ?_
              obtain ⟨k_575, hf⟩ := gx_ck hf
              obtain ⟨r575, h_575, hf⟩ := gx_bs hf
              refine lv_isInNavy (pc := 575) g (M := 500000) ⟨(Nat.le_of_ble_eq_true rfl), (Nat.le_of_ble_eq_true rfl)⟩ k_575 h_575 (q0 := 1) rfl rfl (kW_pm aa ad t _ _ _) (kW_pm aa ad t _ _ _).symm ⟨(Nat.le_of_ble_eq_true rfl), (Nat.le_of_ble_eq_true rfl)⟩ (Nat.le_of_ble_eq_true rfl) dL_law_575 ?_
              refine j_if_ne (tgt := 585) (pc := 578) g dL_law_578 (by decide) (fun c_578 => ?_) (fun c_578 => ?_)
              · have hf := gx_if c_578 hf
                refine j_iconst (v := 0) (pc := 585) g dL_law_585 (by decide) ?_
                refine j_iand (pc := 586) g dL_law_586 ?_
                refine j_istore (L' := [(26, .int (v26 &&& (0 : Int32))), (0, .ref (xB aa)), (1, .ref (ad 0)), (2, .ref os), (3, .int v3), (4, .int v4), (5, .int v5), (6, .int v6), (7, .long v7), (9, .int v9), (10, .int v10), (12, .int v12), (13, .int v13), (14, .int v14), (15, .int v15), (16, .int v16), (17, .int v17), (19, .int v19), (20, .int v20), (21, .int v21), (22, .int v22), (23, .int v23), (24, .int v24), (25, .int v25)]) (pc := 587) g dL_law_587 (Nat.le_of_ble_eq_true rfl) rfl ?_
                refine j_sub (pc := 589) g [1, 2, 3, 4, 5, 6, 7, 8, 9, 10, 11, 12, 13, 14, 15, 16, 19, 20, 21, 22, 23, 0] rfl ?_
                exact tL_law_589 hst hxl g hE hk31 (r564.2, σ.2.1 + 1, σ.2.2) v3 v4 v5 v6 v7 v9 v10 v12 v13 v14 v15 v16 v17 v21 v22 v23 v24 v25 (v26 &&& (0 : Int32)) hf
              · have hf := gx_it c_578 hf
                refine j_iconst (v := 1) (pc := 581) g dL_law_581 (by decide) ?_
                refine j_goto (tgt := 586) (pc := 582) g dL_law_582 (by decide) ?_
                refine j_iand (pc := 586) g dL_law_586 ?_
                refine j_istore (L' := [(26, .int (v26 &&& (1 : Int32))), (0, .ref (xB aa)), (1, .ref (ad 0)), (2, .ref os), (3, .int v3), (4, .int v4), (5, .int v5), (6, .int v6), (7, .long v7), (9, .int v9), (10, .int v10), (12, .int v12), (13, .int v13), (14, .int v14), (15, .int v15), (16, .int v16), (17, .int v17), (19, .int v19), (20, .int v20), (21, .int v21), (22, .int v22), (23, .int v23), (24, .int v24), (25, .int v25)]) (pc := 587) g dL_law_587 (Nat.le_of_ble_eq_true rfl) rfl ?_
                refine j_sub (pc := 589) g [1, 2, 3, 4, 5, 6, 7, 8, 9, 10, 11, 12, 13, 14, 15, 16, 19, 20, 21, 22, 23, 0] rfl ?_
                exact tL_law_589 hst hxl g hE hk31 (r564.2, σ.2.1 + 1, σ.2.2) v3 v4 v5 v6 v7 v9 v10 v12 v13 v14 v15 v16 v17 v21 v22 v23 v24 v25 (v26 &&& (1 : Int32)) hf
set_option maxRecDepth 100000 in
set_option maxHeartbeats 8000000 in
theorem tL_law_460 {D : va_G} {t : Nat → ClassId} {aa : gx_AA} {l : Launch} {J : gx_J} {ad : Nat → Nat} {rs : va_W} {os : Nat} {k31 : LwT → Int32 → Int32 → Int32 → Int32 → Option (Int32 × LwT)} {q : (Int32 × LwT)} (hst : l.stackTraces = false) (hxl : xL aa < 2 ^ 31) (g : gx_G D t (gx_E0 aa) l room_1 cL_law RL 28 J) (hE : ∀ (v : Int32) (σ : LwT) (pc : Nat) (L : List (Nat × Value)), some (v, σ) = some q → σ.2.1 ≤ 500000 → decode cL_law pc = .ok (.ireturn, 1) → narrow .boolean (.int v) = .int v → J σ.2.1 (6 * σ.2.1) ((os, .inl (t 4, 70, .inr (.inl σ.2.2))) :: kW aa ad t σ.1 rs) pc L [.int v]) (hk31 : ∀ (σ : LwT) (v3 : Int32) (v4 : Int32) (v5 : Int32) (v6 : Int32), k31 σ v3 v4 v5 v6 = some q → J σ.2.1 (6 * σ.2.1) ((os, .inl (t 4, 70, .inr (.inl σ.2.2))) :: kW aa ad t σ.1 rs) 31 [(0, .ref (xB aa)), (1, .ref (ad 0)), (2, .ref os), (3, .int v3), (4, .int v4), (5, .int v5), (6, .int v6)] []) : ∀ (σ : LwT) (v3 : Int32) (v4 : Int32) (v5 : Int32) (v6 : Int32) (v7 : Int64) (v9 : Int32) (v10 : Int32) (v12 : Int32) (v13 : Int32) (v14 : Int32) (v15 : Int32) (v16 : Int32) (v17 : Int32) (v18 : Int32) (v19 : Int32) (v20 : Int32) (v21 : Int32) (v22 : Int32) (v23 : Int32) (v24 : Int32) (v25 : Int32) (v26 : Int32), fL_law_460 aa k31 σ v3 v4 v5 v6 v7 v9 v10 v12 v13 v14 v15 v16 v17 v18 v19 v20 v21 v22 v23 v24 v25 v26 = some q → J σ.2.1 (6 * σ.2.1) ((os, .inl (t 4, 70, .inr (.inl σ.2.2))) :: kW aa ad t σ.1 rs) 460 [(0, .ref (xB aa)), (1, .ref (ad 0)), (2, .ref os), (3, .int v3), (4, .int v4), (5, .int v5), (6, .int v6), (7, .long v7), (9, .int v9), (10, .int v10), (12, .int v12), (13, .int v13), (14, .int v14), (15, .int v15), (16, .int v16), (17, .int v17), (18, .int v18), (19, .int v19), (20, .int v20), (21, .int v21), (22, .int v22), (23, .int v23), (24, .int v24), (25, .int v25), (26, .int v26)] [] := by
  intro σ v3 v4 v5 v6 v7 v9 v10 v12 v13 v14 v15 v16 v17 v18 v19 v20 v21 v22 v23 v24 v25 v26 hf
  unfold fL_law_460 at hf
  refine j_iload (pc := 460) g 24 dL_law_460 rfl ?_
  refine j_iload (pc := 462) g 22 dL_law_462 rfl ?_
  refine j_if_eq (tgt := 514) (pc := 464) g dL_law_464 (by decide) (fun c_464 => ?_) (fun c_464 => ?_)
  · have hf := gx_it c_464 hf
    refine j_iconst (v := 1) (pc := 514) g dL_law_514 (by decide) ?_
    refine j_goto (tgt := 519) (pc := 515) g dL_law_515 (by decide) ?_
    refine j_iand (pc := 519) g dL_law_519 ?_
    refine j_istore (L' := [(26, .int (v26 &&& (1 : Int32))), (0, .ref (xB aa)), (1, .ref (ad 0)), (2, .ref os), (3, .int v3), (4, .int v4), (5, .int v5), (6, .int v6), (7, .long v7), (9, .int v9), (10, .int v10), (12, .int v12), (13, .int v13), (14, .int v14), (15, .int v15), (16, .int v16), (17, .int v17), (18, .int v18), (19, .int v19), (20, .int v20), (21, .int v21), (22, .int v22), (23, .int v23), (24, .int v24), (25, .int v25)]) (pc := 520) g dL_law_520 (Nat.le_of_ble_eq_true rfl) rfl ?_
    refine j_sub (pc := 522) g [1, 2, 3, 4, 5, 6, 7, 8, 9, 10, 11, 12, 13, 14, 15, 16, 18, 19, 20, 21, 22, 23, 24, 0] rfl ?_
    exact tL_law_522 hst hxl g hE hk31 σ v3 v4 v5 v6 v7 v9 v10 v12 v13 v14 v15 v16 v17 v19 v20 v21 v22 v23 v24 v25 (v26 &&& (1 : Int32)) hf
  · have hf := gx_if c_464 hf
    refine j_iload (pc := 467) g 9 dL_law_467 rfl ?_
    refine j_bipush (v := 9) (pc := 469) g dL_law_469 (by decide) ?_
    refine j_icmp_lt (tgt := 514) (pc := 471) g dL_law_471 (by decide) (fun c_471 => ?_) (fun c_471 => ?_)
    · have hf := gx_it c_471 hf
      refine j_iconst (v := 1) (pc := 514) g dL_law_514 (by decide) ?_
      refine j_goto (tgt := 519) (pc := 515) g dL_law_515 (by decide) ?_
      refine j_iand (pc := 519) g dL_law_519 ?_
      refine j_istore (L' := [(26, .int (v26 &&& (1 : Int32))), (0, .ref (xB aa)), (1, .ref (ad 0)), (2, .ref os), (3, .int v3), (4, .int v4), (5, .int v5), (6, .int v6), (7, .long v7), (9, .int v9), (10, .int v10), (12, .int v12), (13, .int v13), (14, .int v14), (15, .int v15), (16, .int v16), (17, .int v17), (18, .int v18), (19, .int v19), (20, .int v20), (21, .int v21), (22, .int v22), (23, .int v23), (24, .int v24), (25, .int v25)]) (pc := 520) g dL_law_520 (Nat.le_of_ble_eq_true rfl) rfl ?_
      refine j_sub (pc := 522) g [1, 2, 3, 4, 5, 6, 7, 8, 9, 10, 11, 12, 13, 14, 15, 16, 18, 19, 20, 21, 22, 23, 24, 0] rfl ?_
      exact tL_law_522 hst hxl g hE hk31 σ v3 v4 v5 v6 v7 v9 v10 v12 v13 v14 v15 v16 v17 v19 v20 v21 v22 v23 v24 v25 (v26 &&& (1 : Int32)) hf
    · have hf := gx_if c_471 hf
      refine j_iload (pc := 474) g 9 dL_law_474 rfl ?_
      refine j_bipush (v := 13) (pc := 476) g dL_law_476 (by decide) ?_
      refine j_icmp_gt (tgt := 514) (pc := 478) g dL_law_478 (by decide) (fun c_478 => ?_) (fun c_478 => ?_)
      · have hf := gx_it c_478 hf
        refine j_iconst (v := 1) (pc := 514) g dL_law_514 (by decide) ?_
        refine j_goto (tgt := 519) (pc := 515) g dL_law_515 (by decide) ?_
        refine j_iand (pc := 519) g dL_law_519 ?_
        refine j_istore (L' := [(26, .int (v26 &&& (1 : Int32))), (0, .ref (xB aa)), (1, .ref (ad 0)), (2, .ref os), (3, .int v3), (4, .int v4), (5, .int v5), (6, .int v6), (7, .long v7), (9, .int v9), (10, .int v10), (12, .int v12), (13, .int v13), (14, .int v14), (15, .int v15), (16, .int v16), (17, .int v17), (18, .int v18), (19, .int v19), (20, .int v20), (21, .int v21), (22, .int v22), (23, .int v23), (24, .int v24), (25, .int v25)]) (pc := 520) g dL_law_520 (Nat.le_of_ble_eq_true rfl) rfl ?_
        refine j_sub (pc := 522) g [1, 2, 3, 4, 5, 6, 7, 8, 9, 10, 11, 12, 13, 14, 15, 16, 18, 19, 20, 21, 22, 23, 24, 0] rfl ?_
        exact tL_law_522 hst hxl g hE hk31 σ v3 v4 v5 v6 v7 v9 v10 v12 v13 v14 v15 v16 v17 v19 v20 v21 v22 v23 v24 v25 (v26 &&& (1 : Int32)) hf
      · have hf := gx_if c_478 hf
        refine j_aload_n (pc := 481) g 1 dL_law_481 rfl ?_
        refine j_iload (pc := 482) g 10 dL_law_482 rfl ?_
        obtain ⟨k_484, hf⟩ := gx_ck hf
        obtain ⟨r484, h_484, hf⟩ := gx_bs hf
        refine lc_superior (pc := 484) g (M := 500000) ⟨(Nat.le_of_ble_eq_true rfl), (Nat.le_of_ble_eq_true rfl)⟩ hst k_484 h_484 (kW_pm aa ad t _ _ _) (kW_pm aa ad t _ _ _).symm ⟨(Nat.le_of_ble_eq_true rfl), (Nat.le_of_ble_eq_true rfl)⟩ (Nat.le_of_ble_eq_true rfl) dL_law_484 ?_
        refine j_iload (pc := 487) g 11 dL_law_487 rfl ?_
        refine j_icmp_ne (tgt := 518) (pc := 489) g dL_law_489 (by decide) (fun c_489 => ?_) (fun c_489 => ?_)
        · have hf := gx_if c_489 hf
          refine j_iconst (v := 0) (pc := 518) g dL_law_518 (by decide) ?_
          refine j_iand (pc := 519) g dL_law_519 ?_
          refine j_istore (L' := [(26, .int (v26 &&& (0 : Int32))), (0, .ref (xB aa)), (1, .ref (ad 0)), (2, .ref os), (3, .int v3), (4, .int v4), (5, .int v5), (6, .int v6), (7, .long v7), (9, .int v9), (10, .int v10), (12, .int v12), (13, .int v13), (14, .int v14), (15, .int v15), (16, .int v16), (17, .int v17), (18, .int v18), (19, .int v19), (20, .int v20), (21, .int v21), (22, .int v22), (23, .int v23), (24, .int v24), (25, .int v25)]) (pc := 520) g dL_law_520 (Nat.le_of_ble_eq_true rfl) rfl ?_
          refine j_sub (pc := 522) g [1, 2, 3, 4, 5, 6, 7, 8, 9, 10, 11, 12, 13, 14, 15, 16, 18, 19, 20, 21, 22, 23, 24, 0] rfl ?_
          exact tL_law_522 hst hxl g hE hk31 (r484.2, σ.2.1 + 1, σ.2.2) v3 v4 v5 v6 v7 v9 v10 v12 v13 v14 v15 v16 v17 v19 v20 v21 v22 v23 v24 v25 (v26 &&& (0 : Int32)) hf
        · have hf := gx_it c_489 hf
          refine j_aload_n (pc := 492) g 1 dL_law_492 rfl ?_
          refine j_iload (pc := 493) g 10 dL_law_493 rfl ?_
          obtain ⟨k_495, hf⟩ := gx_ck hf
          obtain ⟨r495, h_495, hf⟩ := gx_bs hf
          refine lc_commandSize (pc := 495) g (M := 500000) ⟨(Nat.le_of_ble_eq_true rfl), (Nat.le_of_ble_eq_true rfl)⟩ hst k_495 h_495 (kW_pm aa ad t _ _ _) (kW_pm aa ad t _ _ _).symm ⟨(Nat.le_of_ble_eq_true rfl), (Nat.le_of_ble_eq_true rfl)⟩ (Nat.le_of_ble_eq_true rfl) dL_law_495 ?_
          refine j_iload (pc := 498) g 16 dL_law_498 rfl ?_
          refine j_icmp_ne (tgt := 518) (pc := 500) g dL_law_500 (by decide) (fun c_500 => ?_) (fun c_500 => ?_)
          · have hf := gx_if c_500 hf
            refine j_iconst (v := 0) (pc := 518) g dL_law_518 (by decide) ?_
            refine j_iand (pc := 519) g dL_law_519 ?_
            refine j_istore (L' := [(26, .int (v26 &&& (0 : Int32))), (0, .ref (xB aa)), (1, .ref (ad 0)), (2, .ref os), (3, .int v3), (4, .int v4), (5, .int v5), (6, .int v6), (7, .long v7), (9, .int v9), (10, .int v10), (12, .int v12), (13, .int v13), (14, .int v14), (15, .int v15), (16, .int v16), (17, .int v17), (18, .int v18), (19, .int v19), (20, .int v20), (21, .int v21), (22, .int v22), (23, .int v23), (24, .int v24), (25, .int v25)]) (pc := 520) g dL_law_520 (Nat.le_of_ble_eq_true rfl) rfl ?_
            refine j_sub (pc := 522) g [1, 2, 3, 4, 5, 6, 7, 8, 9, 10, 11, 12, 13, 14, 15, 16, 18, 19, 20, 21, 22, 23, 24, 0] rfl ?_
            exact tL_law_522 hst hxl g hE hk31 (r495.2, (σ.2.1 + 1) + 1, σ.2.2) v3 v4 v5 v6 v7 v9 v10 v12 v13 v14 v15 v16 v17 v19 v20 v21 v22 v23 v24 v25 (v26 &&& (0 : Int32)) hf
          · have hf := gx_it c_500 hf
            refine j_aload_n (pc := 503) g 1 dL_law_503 rfl ?_
            refine j_iload (pc := 504) g 11 dL_law_504 rfl ?_
            obtain ⟨k_506, hf⟩ := gx_ck hf
            obtain ⟨r506, h_506, hf⟩ := gx_bs hf
            refine lc_commandSize (pc := 506) g (M := 500000) ⟨(Nat.le_of_ble_eq_true rfl), (Nat.le_of_ble_eq_true rfl)⟩ hst k_506 h_506 (kW_pm aa ad t _ _ _) (kW_pm aa ad t _ _ _).symm ⟨(Nat.le_of_ble_eq_true rfl), (Nat.le_of_ble_eq_true rfl)⟩ (Nat.le_of_ble_eq_true rfl) dL_law_506 ?_
            refine j_iload (pc := 509) g 21 dL_law_509 rfl ?_
            refine j_icmp_ne (tgt := 518) (pc := 511) g dL_law_511 (by decide) (fun c_511 => ?_) (fun c_511 => ?_)
            · have hf := gx_if c_511 hf
              refine j_iconst (v := 0) (pc := 518) g dL_law_518 (by decide) ?_
              refine j_iand (pc := 519) g dL_law_519 ?_
              refine j_istore (L' := [(26, .int (v26 &&& (0 : Int32))), (0, .ref (xB aa)), (1, .ref (ad 0)), (2, .ref os), (3, .int v3), (4, .int v4), (5, .int v5), (6, .int v6), (7, .long v7), (9, .int v9), (10, .int v10), (12, .int v12), (13, .int v13), (14, .int v14), (15, .int v15), (16, .int v16), (17, .int v17), (18, .int v18), (19, .int v19), (20, .int v20), (21, .int v21), (22, .int v22), (23, .int v23), (24, .int v24), (25, .int v25)]) (pc := 520) g dL_law_520 (Nat.le_of_ble_eq_true rfl) rfl ?_
              refine j_sub (pc := 522) g [1, 2, 3, 4, 5, 6, 7, 8, 9, 10, 11, 12, 13, 14, 15, 16, 18, 19, 20, 21, 22, 23, 24, 0] rfl ?_
              exact tL_law_522 hst hxl g hE hk31 (r506.2, ((σ.2.1 + 1) + 1) + 1, σ.2.2) v3 v4 v5 v6 v7 v9 v10 v12 v13 v14 v15 v16 v17 v19 v20 v21 v22 v23 v24 v25 (v26 &&& (0 : Int32)) hf
            · have hf := gx_it c_511 hf
              refine j_iconst (v := 1) (pc := 514) g dL_law_514 (by decide) ?_
              refine j_goto (tgt := 519) (pc := 515) g dL_law_515 (by decide) ?_
              refine j_iand (pc := 519) g dL_law_519 ?_
              refine j_istore (L' := [(26, .int (v26 &&& (1 : Int32))), (0, .ref (xB aa)), (1, .ref (ad 0)), (2, .ref os), (3, .int v3), (4, .int v4), (5, .int v5), (6, .int v6), (7, .long v7), (9, .int v9), (10, .int v10), (12, .int v12), (13, .int v13), (14, .int v14), (15, .int v15), (16, .int v16), (17, .int v17), (18, .int v18), (19, .int v19), (20, .int v20), (21, .int v21), (22, .int v22), (23, .int v23), (24, .int v24), (25, .int v25)]) (pc := 520) g dL_law_520 (Nat.le_of_ble_eq_true rfl) rfl ?_
              refine j_sub (pc := 522) g [1, 2, 3, 4, 5, 6, 7, 8, 9, 10, 11, 12, 13, 14, 15, 16, 18, 19, 20, 21, 22, 23, 24, 0] rfl ?_
              exact tL_law_522 hst hxl g hE hk31 (r506.2, ((σ.2.1 + 1) + 1) + 1, σ.2.2) v3 v4 v5 v6 v7 v9 v10 v12 v13 v14 v15 v16 v17 v19 v20 v21 v22 v23 v24 v25 (v26 &&& (1 : Int32)) hf
set_option maxRecDepth 100000 in
set_option maxHeartbeats 8000000 in
theorem tL_law_420 {D : va_G} {t : Nat → ClassId} {aa : gx_AA} {l : Launch} {J : gx_J} {ad : Nat → Nat} {rs : va_W} {os : Nat} {k31 : LwT → Int32 → Int32 → Int32 → Int32 → Option (Int32 × LwT)} {q : (Int32 × LwT)} (hst : l.stackTraces = false) (hxl : xL aa < 2 ^ 31) (g : gx_G D t (gx_E0 aa) l room_1 cL_law RL 28 J) (hE : ∀ (v : Int32) (σ : LwT) (pc : Nat) (L : List (Nat × Value)), some (v, σ) = some q → σ.2.1 ≤ 500000 → decode cL_law pc = .ok (.ireturn, 1) → narrow .boolean (.int v) = .int v → J σ.2.1 (6 * σ.2.1) ((os, .inl (t 4, 70, .inr (.inl σ.2.2))) :: kW aa ad t σ.1 rs) pc L [.int v]) (hk31 : ∀ (σ : LwT) (v3 : Int32) (v4 : Int32) (v5 : Int32) (v6 : Int32), k31 σ v3 v4 v5 v6 = some q → J σ.2.1 (6 * σ.2.1) ((os, .inl (t 4, 70, .inr (.inl σ.2.2))) :: kW aa ad t σ.1 rs) 31 [(0, .ref (xB aa)), (1, .ref (ad 0)), (2, .ref os), (3, .int v3), (4, .int v4), (5, .int v5), (6, .int v6)] []) : ∀ (σ : LwT) (v3 : Int32) (v4 : Int32) (v5 : Int32) (v6 : Int32) (v7 : Int64) (v9 : Int32) (v10 : Int32) (v12 : Int32) (v13 : Int32) (v14 : Int32) (v15 : Int32) (v16 : Int32) (v17 : Int32) (v18 : Int32) (v19 : Int32) (v20 : Int32) (v21 : Int32) (v22 : Int32) (v23 : Int32) (v24 : Int32) (v25 : Int32) (v26 : Int32), fL_law_420 aa k31 σ v3 v4 v5 v6 v7 v9 v10 v12 v13 v14 v15 v16 v17 v18 v19 v20 v21 v22 v23 v24 v25 v26 = some q → J σ.2.1 (6 * σ.2.1) ((os, .inl (t 4, 70, .inr (.inl σ.2.2))) :: kW aa ad t σ.1 rs) 420 [(0, .ref (xB aa)), (1, .ref (ad 0)), (2, .ref os), (3, .int v3), (4, .int v4), (5, .int v5), (6, .int v6), (7, .long v7), (9, .int v9), (10, .int v10), (12, .int v12), (13, .int v13), (14, .int v14), (15, .int v15), (16, .int v16), (17, .int v17), (18, .int v18), (19, .int v19), (20, .int v20), (21, .int v21), (22, .int v22), (23, .int v23), (24, .int v24), (25, .int v25), (26, .int v26)] [] := by
  intro σ v3 v4 v5 v6 v7 v9 v10 v12 v13 v14 v15 v16 v17 v18 v19 v20 v21 v22 v23 v24 v25 v26 hf
  unfold fL_law_420 at hf
  refine j_iload (pc := 420) g 24 dL_law_420 rfl ?_
  refine j_iload (pc := 422) g 22 dL_law_422 rfl ?_
  refine j_if_eq (tgt := 452) (pc := 424) g dL_law_424 (by decide) (fun c_424 => ?_) (fun c_424 => ?_)
  · have hf := gx_it c_424 hf
    refine j_iconst (v := 1) (pc := 452) g dL_law_452 (by decide) ?_
    refine j_goto (tgt := 457) (pc := 453) g dL_law_453 (by decide) ?_
    refine j_iand (pc := 457) g dL_law_457 ?_
    refine j_istore (L' := [(26, .int (v26 &&& (1 : Int32))), (0, .ref (xB aa)), (1, .ref (ad 0)), (2, .ref os), (3, .int v3), (4, .int v4), (5, .int v5), (6, .int v6), (7, .long v7), (9, .int v9), (10, .int v10), (12, .int v12), (13, .int v13), (14, .int v14), (15, .int v15), (16, .int v16), (17, .int v17), (18, .int v18), (19, .int v19), (20, .int v20), (21, .int v21), (22, .int v22), (23, .int v23), (24, .int v24), (25, .int v25)]) (pc := 458) g dL_law_458 (Nat.le_of_ble_eq_true rfl) rfl ?_
    refine j_sub (pc := 460) g [1, 2, 3, 4, 5, 6, 7, 8, 9, 10, 11, 12, 13, 14, 15, 16, 17, 18, 19, 20, 21, 22, 23, 24, 0] rfl ?_
    exact tL_law_460 hst hxl g hE hk31 σ v3 v4 v5 v6 v7 v9 v10 v12 v13 v14 v15 v16 v17 v18 v19 v20 v21 v22 v23 v24 v25 (v26 &&& (1 : Int32)) hf
  · have hf := gx_if c_424 hf
    refine j_iload (pc := 427) g 9 dL_law_427 rfl ?_
    refine j_bipush (v := 7) (pc := 429) g dL_law_429 (by decide) ?_
    refine j_icmp_lt (tgt := 452) (pc := 431) g dL_law_431 (by decide) (fun c_431 => ?_) (fun c_431 => ?_)
    · have hf := gx_it c_431 hf
      refine j_iconst (v := 1) (pc := 452) g dL_law_452 (by decide) ?_
      refine j_goto (tgt := 457) (pc := 453) g dL_law_453 (by decide) ?_
      refine j_iand (pc := 457) g dL_law_457 ?_
      refine j_istore (L' := [(26, .int (v26 &&& (1 : Int32))), (0, .ref (xB aa)), (1, .ref (ad 0)), (2, .ref os), (3, .int v3), (4, .int v4), (5, .int v5), (6, .int v6), (7, .long v7), (9, .int v9), (10, .int v10), (12, .int v12), (13, .int v13), (14, .int v14), (15, .int v15), (16, .int v16), (17, .int v17), (18, .int v18), (19, .int v19), (20, .int v20), (21, .int v21), (22, .int v22), (23, .int v23), (24, .int v24), (25, .int v25)]) (pc := 458) g dL_law_458 (Nat.le_of_ble_eq_true rfl) rfl ?_
      refine j_sub (pc := 460) g [1, 2, 3, 4, 5, 6, 7, 8, 9, 10, 11, 12, 13, 14, 15, 16, 17, 18, 19, 20, 21, 22, 23, 24, 0] rfl ?_
      exact tL_law_460 hst hxl g hE hk31 σ v3 v4 v5 v6 v7 v9 v10 v12 v13 v14 v15 v16 v17 v18 v19 v20 v21 v22 v23 v24 v25 (v26 &&& (1 : Int32)) hf
    · have hf := gx_if c_431 hf
      refine j_iload (pc := 434) g 9 dL_law_434 rfl ?_
      refine j_bipush (v := 8) (pc := 436) g dL_law_436 (by decide) ?_
      refine j_icmp_gt (tgt := 452) (pc := 438) g dL_law_438 (by decide) (fun c_438 => ?_) (fun c_438 => ?_)
      · have hf := gx_it c_438 hf
        refine j_iconst (v := 1) (pc := 452) g dL_law_452 (by decide) ?_
        refine j_goto (tgt := 457) (pc := 453) g dL_law_453 (by decide) ?_
        refine j_iand (pc := 457) g dL_law_457 ?_
        refine j_istore (L' := [(26, .int (v26 &&& (1 : Int32))), (0, .ref (xB aa)), (1, .ref (ad 0)), (2, .ref os), (3, .int v3), (4, .int v4), (5, .int v5), (6, .int v6), (7, .long v7), (9, .int v9), (10, .int v10), (12, .int v12), (13, .int v13), (14, .int v14), (15, .int v15), (16, .int v16), (17, .int v17), (18, .int v18), (19, .int v19), (20, .int v20), (21, .int v21), (22, .int v22), (23, .int v23), (24, .int v24), (25, .int v25)]) (pc := 458) g dL_law_458 (Nat.le_of_ble_eq_true rfl) rfl ?_
        refine j_sub (pc := 460) g [1, 2, 3, 4, 5, 6, 7, 8, 9, 10, 11, 12, 13, 14, 15, 16, 17, 18, 19, 20, 21, 22, 23, 24, 0] rfl ?_
        exact tL_law_460 hst hxl g hE hk31 σ v3 v4 v5 v6 v7 v9 v10 v12 v13 v14 v15 v16 v17 v18 v19 v20 v21 v22 v23 v24 v25 (v26 &&& (1 : Int32)) hf
      · have hf := gx_if c_438 hf
        refine j_iload (pc := 441) g 21 dL_law_441 rfl ?_
        refine j_aload_n (pc := 443) g 1 dL_law_443 rfl ?_
        refine j_iload (pc := 444) g 10 dL_law_444 rfl ?_
        obtain ⟨k_446, hf⟩ := gx_ck hf
        obtain ⟨r446, h_446, hf⟩ := gx_bs hf
        refine lc_rank (pc := 446) g (M := 500000) ⟨(Nat.le_of_ble_eq_true rfl), (Nat.le_of_ble_eq_true rfl)⟩ hst k_446 h_446 (kW_pm aa ad t _ _ _) (kW_pm aa ad t _ _ _).symm ⟨(Nat.le_of_ble_eq_true rfl), (Nat.le_of_ble_eq_true rfl)⟩ (Nat.le_of_ble_eq_true rfl) dL_law_446 ?_
        refine j_icmp_ne (tgt := 456) (pc := 449) g dL_law_449 (by decide) (fun c_449 => ?_) (fun c_449 => ?_)
        · have hf := gx_if c_449 hf
          refine j_iconst (v := 0) (pc := 456) g dL_law_456 (by decide) ?_
          refine j_iand (pc := 457) g dL_law_457 ?_
          refine j_istore (L' := [(26, .int (v26 &&& (0 : Int32))), (0, .ref (xB aa)), (1, .ref (ad 0)), (2, .ref os), (3, .int v3), (4, .int v4), (5, .int v5), (6, .int v6), (7, .long v7), (9, .int v9), (10, .int v10), (12, .int v12), (13, .int v13), (14, .int v14), (15, .int v15), (16, .int v16), (17, .int v17), (18, .int v18), (19, .int v19), (20, .int v20), (21, .int v21), (22, .int v22), (23, .int v23), (24, .int v24), (25, .int v25)]) (pc := 458) g dL_law_458 (Nat.le_of_ble_eq_true rfl) rfl ?_
          refine j_sub (pc := 460) g [1, 2, 3, 4, 5, 6, 7, 8, 9, 10, 11, 12, 13, 14, 15, 16, 17, 18, 19, 20, 21, 22, 23, 24, 0] rfl ?_
          exact tL_law_460 hst hxl g hE hk31 (r446.2, σ.2.1 + 1, σ.2.2) v3 v4 v5 v6 v7 v9 v10 v12 v13 v14 v15 v16 v17 v18 v19 v20 v21 v22 v23 v24 v25 (v26 &&& (0 : Int32)) hf
        · have hf := gx_it c_449 hf
          refine j_iconst (v := 1) (pc := 452) g dL_law_452 (by decide) ?_
          refine j_goto (tgt := 457) (pc := 453) g dL_law_453 (by decide) ?_
          refine j_iand (pc := 457) g dL_law_457 ?_
          refine j_istore (L' := [(26, .int (v26 &&& (1 : Int32))), (0, .ref (xB aa)), (1, .ref (ad 0)), (2, .ref os), (3, .int v3), (4, .int v4), (5, .int v5), (6, .int v6), (7, .long v7), (9, .int v9), (10, .int v10), (12, .int v12), (13, .int v13), (14, .int v14), (15, .int v15), (16, .int v16), (17, .int v17), (18, .int v18), (19, .int v19), (20, .int v20), (21, .int v21), (22, .int v22), (23, .int v23), (24, .int v24), (25, .int v25)]) (pc := 458) g dL_law_458 (Nat.le_of_ble_eq_true rfl) rfl ?_
          refine j_sub (pc := 460) g [1, 2, 3, 4, 5, 6, 7, 8, 9, 10, 11, 12, 13, 14, 15, 16, 17, 18, 19, 20, 21, 22, 23, 24, 0] rfl ?_
          exact tL_law_460 hst hxl g hE hk31 (r446.2, σ.2.1 + 1, σ.2.2) v3 v4 v5 v6 v7 v9 v10 v12 v13 v14 v15 v16 v17 v18 v19 v20 v21 v22 v23 v24 v25 (v26 &&& (1 : Int32)) hf
set_option maxRecDepth 100000 in
set_option maxHeartbeats 8000000 in
theorem tL_law_359 {D : va_G} {t : Nat → ClassId} {aa : gx_AA} {l : Launch} {J : gx_J} {ad : Nat → Nat} {rs : va_W} {os : Nat} {k31 : LwT → Int32 → Int32 → Int32 → Int32 → Option (Int32 × LwT)} {q : (Int32 × LwT)} (hst : l.stackTraces = false) (hxl : xL aa < 2 ^ 31) (g : gx_G D t (gx_E0 aa) l room_1 cL_law RL 28 J) (hE : ∀ (v : Int32) (σ : LwT) (pc : Nat) (L : List (Nat × Value)), some (v, σ) = some q → σ.2.1 ≤ 500000 → decode cL_law pc = .ok (.ireturn, 1) → narrow .boolean (.int v) = .int v → J σ.2.1 (6 * σ.2.1) ((os, .inl (t 4, 70, .inr (.inl σ.2.2))) :: kW aa ad t σ.1 rs) pc L [.int v]) (hk31 : ∀ (σ : LwT) (v3 : Int32) (v4 : Int32) (v5 : Int32) (v6 : Int32), k31 σ v3 v4 v5 v6 = some q → J σ.2.1 (6 * σ.2.1) ((os, .inl (t 4, 70, .inr (.inl σ.2.2))) :: kW aa ad t σ.1 rs) 31 [(0, .ref (xB aa)), (1, .ref (ad 0)), (2, .ref os), (3, .int v3), (4, .int v4), (5, .int v5), (6, .int v6)] []) : ∀ (σ : LwT) (v3 : Int32) (v4 : Int32) (v5 : Int32) (v6 : Int32) (v7 : Int64) (v9 : Int32) (v10 : Int32) (v11 : Int32) (v12 : Int32) (v13 : Int32) (v14 : Int32) (v15 : Int32) (v16 : Int32) (v17 : Int32) (v18 : Int32) (v19 : Int32) (v20 : Int32) (v21 : Int32) (v22 : Int32) (v23 : Int32) (v24 : Int32) (v25 : Int32) (v26 : Int32), fL_law_359 aa k31 σ v3 v4 v5 v6 v7 v9 v10 v11 v12 v13 v14 v15 v16 v17 v18 v19 v20 v21 v22 v23 v24 v25 v26 = some q → J σ.2.1 (6 * σ.2.1) ((os, .inl (t 4, 70, .inr (.inl σ.2.2))) :: kW aa ad t σ.1 rs) 359 [(0, .ref (xB aa)), (1, .ref (ad 0)), (2, .ref os), (3, .int v3), (4, .int v4), (5, .int v5), (6, .int v6), (7, .long v7), (9, .int v9), (10, .int v10), (11, .int v11), (12, .int v12), (13, .int v13), (14, .int v14), (15, .int v15), (16, .int v16), (17, .int v17), (18, .int v18), (19, .int v19), (20, .int v20), (21, .int v21), (22, .int v22), (23, .int v23), (24, .int v24), (25, .int v25), (26, .int v26)] [] := by
  intro σ v3 v4 v5 v6 v7 v9 v10 v11 v12 v13 v14 v15 v16 v17 v18 v19 v20 v21 v22 v23 v24 v25 v26 hf
  unfold fL_law_359 at hf
  refine j_iload (pc := 359) g 25 dL_law_359 rfl ?_
  refine j_iload (pc := 361) g 23 dL_law_361 rfl ?_
  refine j_if_eq (tgt := 412) (pc := 363) g dL_law_363 (by decide) (fun c_363 => ?_) (fun c_363 => ?_)
  · have hf := gx_it c_363 hf
    refine j_iconst (v := 1) (pc := 412) g dL_law_412 (by decide) ?_
    refine j_goto (tgt := 417) (pc := 413) g dL_law_413 (by decide) ?_
    refine j_iand (pc := 417) g dL_law_417 ?_
    refine j_istore (L' := [(26, .int (v26 &&& (1 : Int32))), (0, .ref (xB aa)), (1, .ref (ad 0)), (2, .ref os), (3, .int v3), (4, .int v4), (5, .int v5), (6, .int v6), (7, .long v7), (9, .int v9), (10, .int v10), (11, .int v11), (12, .int v12), (13, .int v13), (14, .int v14), (15, .int v15), (16, .int v16), (17, .int v17), (18, .int v18), (19, .int v19), (20, .int v20), (21, .int v21), (22, .int v22), (23, .int v23), (24, .int v24), (25, .int v25)]) (pc := 418) g dL_law_418 (Nat.le_of_ble_eq_true rfl) rfl ?_
    refine j_sub (pc := 420) g [1, 2, 3, 4, 5, 6, 7, 8, 9, 10, 12, 13, 14, 15, 16, 17, 18, 19, 20, 21, 22, 23, 24, 25, 0] rfl ?_
    exact tL_law_420 hst hxl g hE hk31 σ v3 v4 v5 v6 v7 v9 v10 v12 v13 v14 v15 v16 v17 v18 v19 v20 v21 v22 v23 v24 v25 (v26 &&& (1 : Int32)) hf
  · have hf := gx_if c_363 hf
    refine j_iload (pc := 366) g 9 dL_law_366 rfl ?_
    refine j_bipush (v := 6) (pc := 368) g dL_law_368 (by decide) ?_
    refine j_icmp_gt (tgt := 412) (pc := 370) g dL_law_370 (by decide) (fun c_370 => ?_) (fun c_370 => ?_)
    · have hf := gx_it c_370 hf
      refine j_iconst (v := 1) (pc := 412) g dL_law_412 (by decide) ?_
      refine j_goto (tgt := 417) (pc := 413) g dL_law_413 (by decide) ?_
      refine j_iand (pc := 417) g dL_law_417 ?_
      refine j_istore (L' := [(26, .int (v26 &&& (1 : Int32))), (0, .ref (xB aa)), (1, .ref (ad 0)), (2, .ref os), (3, .int v3), (4, .int v4), (5, .int v5), (6, .int v6), (7, .long v7), (9, .int v9), (10, .int v10), (11, .int v11), (12, .int v12), (13, .int v13), (14, .int v14), (15, .int v15), (16, .int v16), (17, .int v17), (18, .int v18), (19, .int v19), (20, .int v20), (21, .int v21), (22, .int v22), (23, .int v23), (24, .int v24), (25, .int v25)]) (pc := 418) g dL_law_418 (Nat.le_of_ble_eq_true rfl) rfl ?_
      refine j_sub (pc := 420) g [1, 2, 3, 4, 5, 6, 7, 8, 9, 10, 12, 13, 14, 15, 16, 17, 18, 19, 20, 21, 22, 23, 24, 25, 0] rfl ?_
      exact tL_law_420 hst hxl g hE hk31 σ v3 v4 v5 v6 v7 v9 v10 v12 v13 v14 v15 v16 v17 v18 v19 v20 v21 v22 v23 v24 v25 (v26 &&& (1 : Int32)) hf
    · have hf := gx_if c_370 hf
      refine j_iload (pc := 373) g 22 dL_law_373 rfl ?_
      refine j_iload (pc := 375) g 10 dL_law_375 rfl ?_
      refine j_icmp_ne (tgt := 416) (pc := 377) g dL_law_377 (by decide) (fun c_377 => ?_) (fun c_377 => ?_)
      · have hf := gx_if c_377 hf
        refine j_iconst (v := 0) (pc := 416) g dL_law_416 (by decide) ?_
        refine j_iand (pc := 417) g dL_law_417 ?_
        refine j_istore (L' := [(26, .int (v26 &&& (0 : Int32))), (0, .ref (xB aa)), (1, .ref (ad 0)), (2, .ref os), (3, .int v3), (4, .int v4), (5, .int v5), (6, .int v6), (7, .long v7), (9, .int v9), (10, .int v10), (11, .int v11), (12, .int v12), (13, .int v13), (14, .int v14), (15, .int v15), (16, .int v16), (17, .int v17), (18, .int v18), (19, .int v19), (20, .int v20), (21, .int v21), (22, .int v22), (23, .int v23), (24, .int v24), (25, .int v25)]) (pc := 418) g dL_law_418 (Nat.le_of_ble_eq_true rfl) rfl ?_
        refine j_sub (pc := 420) g [1, 2, 3, 4, 5, 6, 7, 8, 9, 10, 12, 13, 14, 15, 16, 17, 18, 19, 20, 21, 22, 23, 24, 25, 0] rfl ?_
        exact tL_law_420 hst hxl g hE hk31 σ v3 v4 v5 v6 v7 v9 v10 v12 v13 v14 v15 v16 v17 v18 v19 v20 v21 v22 v23 v24 v25 (v26 &&& (0 : Int32)) hf
      · have hf := gx_it c_377 hf
        refine j_aload_n (pc := 380) g 1 dL_law_380 rfl ?_
        obtain ⟨k_381, hf⟩ := gx_ck hf
        obtain ⟨r381, h_381, hf⟩ := gx_bs hf
        refine lv_officerCount (pc := 381) g (M := 500000) ⟨(Nat.le_of_ble_eq_true rfl), (Nat.le_of_ble_eq_true rfl)⟩ k_381 h_381 (q0 := 1) rfl rfl (kW_pm aa ad t _ _ _) (kW_pm aa ad t _ _ _).symm ⟨(Nat.le_of_ble_eq_true rfl), (Nat.le_of_ble_eq_true rfl)⟩ (Nat.le_of_ble_eq_true rfl) dL_law_381 ?_
        refine j_iload (pc := 384) g 19 dL_law_384 rfl ?_
        refine j_iconst (v := 1) (pc := 386) g dL_law_386 (by decide) ?_
        refine j_iadd (pc := 387) g dL_law_387 ?_
        refine j_icmp_ne (tgt := 416) (pc := 388) g dL_law_388 (by decide) (fun c_388 => ?_) (fun c_388 => ?_)
        · have hf := gx_if c_388 hf
          refine j_iconst (v := 0) (pc := 416) g dL_law_416 (by decide) ?_
          refine j_iand (pc := 417) g dL_law_417 ?_
          refine j_istore (L' := [(26, .int (v26 &&& (0 : Int32))), (0, .ref (xB aa)), (1, .ref (ad 0)), (2, .ref os), (3, .int v3), (4, .int v4), (5, .int v5), (6, .int v6), (7, .long v7), (9, .int v9), (10, .int v10), (11, .int v11), (12, .int v12), (13, .int v13), (14, .int v14), (15, .int v15), (16, .int v16), (17, .int v17), (18, .int v18), (19, .int v19), (20, .int v20), (21, .int v21), (22, .int v22), (23, .int v23), (24, .int v24), (25, .int v25)]) (pc := 418) g dL_law_418 (Nat.le_of_ble_eq_true rfl) rfl ?_
          refine j_sub (pc := 420) g [1, 2, 3, 4, 5, 6, 7, 8, 9, 10, 12, 13, 14, 15, 16, 17, 18, 19, 20, 21, 22, 23, 24, 25, 0] rfl ?_
          exact tL_law_420 hst hxl g hE hk31 σ v3 v4 v5 v6 v7 v9 v10 v12 v13 v14 v15 v16 v17 v18 v19 v20 v21 v22 v23 v24 v25 (v26 &&& (0 : Int32)) hf
        · have hf := gx_it c_388 hf
          refine j_aload_n (pc := 391) g 1 dL_law_391 rfl ?_
          refine j_iload (pc := 392) g 22 dL_law_392 rfl ?_
          obtain ⟨k_394, hf⟩ := gx_ck hf
          obtain ⟨r394, h_394, hf⟩ := gx_bs hf
          refine lc_superior (pc := 394) g (M := 500000) ⟨(Nat.le_of_ble_eq_true rfl), (Nat.le_of_ble_eq_true rfl)⟩ hst k_394 h_394 (kW_pm aa ad t _ _ _) (kW_pm aa ad t _ _ _).symm ⟨(Nat.le_of_ble_eq_true rfl), (Nat.le_of_ble_eq_true rfl)⟩ (Nat.le_of_ble_eq_true rfl) dL_law_394 ?_
          refine j_iload (pc := 397) g 11 dL_law_397 rfl ?_
          refine j_icmp_ne (tgt := 416) (pc := 399) g dL_law_399 (by decide) (fun c_399 => ?_) (fun c_399 => ?_)
          · have hf := gx_if c_399 hf
            refine j_iconst (v := 0) (pc := 416) g dL_law_416 (by decide) ?_
            refine j_iand (pc := 417) g dL_law_417 ?_
            refine j_istore (L' := [(26, .int (v26 &&& (0 : Int32))), (0, .ref (xB aa)), (1, .ref (ad 0)), (2, .ref os), (3, .int v3), (4, .int v4), (5, .int v5), (6, .int v6), (7, .long v7), (9, .int v9), (10, .int v10), (11, .int v11), (12, .int v12), (13, .int v13), (14, .int v14), (15, .int v15), (16, .int v16), (17, .int v17), (18, .int v18), (19, .int v19), (20, .int v20), (21, .int v21), (22, .int v22), (23, .int v23), (24, .int v24), (25, .int v25)]) (pc := 418) g dL_law_418 (Nat.le_of_ble_eq_true rfl) rfl ?_
            refine j_sub (pc := 420) g [1, 2, 3, 4, 5, 6, 7, 8, 9, 10, 12, 13, 14, 15, 16, 17, 18, 19, 20, 21, 22, 23, 24, 25, 0] rfl ?_
            exact tL_law_420 hst hxl g hE hk31 (r394.2, σ.2.1 + 1, σ.2.2) v3 v4 v5 v6 v7 v9 v10 v12 v13 v14 v15 v16 v17 v18 v19 v20 v21 v22 v23 v24 v25 (v26 &&& (0 : Int32)) hf
          · have hf := gx_it c_399 hf
            refine j_aload_n (pc := 402) g 1 dL_law_402 rfl ?_
            refine j_iload (pc := 403) g 22 dL_law_403 rfl ?_
            obtain ⟨k_405, hf⟩ := gx_ck hf
            obtain ⟨r405, h_405, hf⟩ := gx_bs hf
            refine lc_commandSize (pc := 405) g (M := 500000) ⟨(Nat.le_of_ble_eq_true rfl), (Nat.le_of_ble_eq_true rfl)⟩ hst k_405 h_405 (kW_pm aa ad t _ _ _) (kW_pm aa ad t _ _ _).symm ⟨(Nat.le_of_ble_eq_true rfl), (Nat.le_of_ble_eq_true rfl)⟩ (Nat.le_of_ble_eq_true rfl) dL_law_405 ?_
            refine j_iconst (v := 1) (pc := 408) g dL_law_408 (by decide) ?_
            refine j_icmp_ne (tgt := 416) (pc := 409) g dL_law_409 (by decide) (fun c_409 => ?_) (fun c_409 => ?_)
            · have hf := gx_if c_409 hf
              refine j_iconst (v := 0) (pc := 416) g dL_law_416 (by decide) ?_
              refine j_iand (pc := 417) g dL_law_417 ?_
              refine j_istore (L' := [(26, .int (v26 &&& (0 : Int32))), (0, .ref (xB aa)), (1, .ref (ad 0)), (2, .ref os), (3, .int v3), (4, .int v4), (5, .int v5), (6, .int v6), (7, .long v7), (9, .int v9), (10, .int v10), (11, .int v11), (12, .int v12), (13, .int v13), (14, .int v14), (15, .int v15), (16, .int v16), (17, .int v17), (18, .int v18), (19, .int v19), (20, .int v20), (21, .int v21), (22, .int v22), (23, .int v23), (24, .int v24), (25, .int v25)]) (pc := 418) g dL_law_418 (Nat.le_of_ble_eq_true rfl) rfl ?_
              refine j_sub (pc := 420) g [1, 2, 3, 4, 5, 6, 7, 8, 9, 10, 12, 13, 14, 15, 16, 17, 18, 19, 20, 21, 22, 23, 24, 25, 0] rfl ?_
              exact tL_law_420 hst hxl g hE hk31 (r405.2, (σ.2.1 + 1) + 1, σ.2.2) v3 v4 v5 v6 v7 v9 v10 v12 v13 v14 v15 v16 v17 v18 v19 v20 v21 v22 v23 v24 v25 (v26 &&& (0 : Int32)) hf
            · have hf := gx_it c_409 hf
              refine j_iconst (v := 1) (pc := 412) g dL_law_412 (by decide) ?_
              refine j_goto (tgt := 417) (pc := 413) g dL_law_413 (by decide) ?_
              refine j_iand (pc := 417) g dL_law_417 ?_
              refine j_istore (L' := [(26, .int (v26 &&& (1 : Int32))), (0, .ref (xB aa)), (1, .ref (ad 0)), (2, .ref os), (3, .int v3), (4, .int v4), (5, .int v5), (6, .int v6), (7, .long v7), (9, .int v9), (10, .int v10), (11, .int v11), (12, .int v12), (13, .int v13), (14, .int v14), (15, .int v15), (16, .int v16), (17, .int v17), (18, .int v18), (19, .int v19), (20, .int v20), (21, .int v21), (22, .int v22), (23, .int v23), (24, .int v24), (25, .int v25)]) (pc := 418) g dL_law_418 (Nat.le_of_ble_eq_true rfl) rfl ?_
              refine j_sub (pc := 420) g [1, 2, 3, 4, 5, 6, 7, 8, 9, 10, 12, 13, 14, 15, 16, 17, 18, 19, 20, 21, 22, 23, 24, 25, 0] rfl ?_
              exact tL_law_420 hst hxl g hE hk31 (r405.2, (σ.2.1 + 1) + 1, σ.2.2) v3 v4 v5 v6 v7 v9 v10 v12 v13 v14 v15 v16 v17 v18 v19 v20 v21 v22 v23 v24 v25 (v26 &&& (1 : Int32)) hf
set_option maxRecDepth 100000 in
set_option maxHeartbeats 8000000 in
theorem tL_law_324 {D : va_G} {t : Nat → ClassId} {aa : gx_AA} {l : Launch} {J : gx_J} {ad : Nat → Nat} {rs : va_W} {os : Nat} {k31 : LwT → Int32 → Int32 → Int32 → Int32 → Option (Int32 × LwT)} {q : (Int32 × LwT)} (hst : l.stackTraces = false) (hxl : xL aa < 2 ^ 31) (g : gx_G D t (gx_E0 aa) l room_1 cL_law RL 28 J) (hE : ∀ (v : Int32) (σ : LwT) (pc : Nat) (L : List (Nat × Value)), some (v, σ) = some q → σ.2.1 ≤ 500000 → decode cL_law pc = .ok (.ireturn, 1) → narrow .boolean (.int v) = .int v → J σ.2.1 (6 * σ.2.1) ((os, .inl (t 4, 70, .inr (.inl σ.2.2))) :: kW aa ad t σ.1 rs) pc L [.int v]) (hk31 : ∀ (σ : LwT) (v3 : Int32) (v4 : Int32) (v5 : Int32) (v6 : Int32), k31 σ v3 v4 v5 v6 = some q → J σ.2.1 (6 * σ.2.1) ((os, .inl (t 4, 70, .inr (.inl σ.2.2))) :: kW aa ad t σ.1 rs) 31 [(0, .ref (xB aa)), (1, .ref (ad 0)), (2, .ref os), (3, .int v3), (4, .int v4), (5, .int v5), (6, .int v6)] []) : ∀ (σ : LwT) (v3 : Int32) (v4 : Int32) (v5 : Int32) (v6 : Int32) (v7 : Int64) (v9 : Int32) (v10 : Int32) (v11 : Int32) (v12 : Int32) (v13 : Int32) (v14 : Int32) (v15 : Int32) (v16 : Int32) (v17 : Int32) (v18 : Int32) (v19 : Int32) (v20 : Int32) (v21 : Int32) (v22 : Int32) (v23 : Int32) (v24 : Int32), fL_law_324 aa k31 σ v3 v4 v5 v6 v7 v9 v10 v11 v12 v13 v14 v15 v16 v17 v18 v19 v20 v21 v22 v23 v24 = some q → J σ.2.1 (6 * σ.2.1) ((os, .inl (t 4, 70, .inr (.inl σ.2.2))) :: kW aa ad t σ.1 rs) 324 [(0, .ref (xB aa)), (1, .ref (ad 0)), (2, .ref os), (3, .int v3), (4, .int v4), (5, .int v5), (6, .int v6), (7, .long v7), (9, .int v9), (10, .int v10), (11, .int v11), (12, .int v12), (13, .int v13), (14, .int v14), (15, .int v15), (16, .int v16), (17, .int v17), (18, .int v18), (19, .int v19), (20, .int v20), (21, .int v21), (22, .int v22), (23, .int v23), (24, .int v24)] [] := by
  intro σ v3 v4 v5 v6 v7 v9 v10 v11 v12 v13 v14 v15 v16 v17 v18 v19 v20 v21 v22 v23 v24 hf
  unfold fL_law_324 at hf
  refine j_aload_n (pc := 324) g 1 dL_law_324 rfl ?_
  obtain ⟨k_325, hf⟩ := gx_ck hf
  obtain ⟨r325, h_325, hf⟩ := gx_bs hf
  refine lv_executedOrders (pc := 325) g (M := 500000) ⟨(Nat.le_of_ble_eq_true rfl), (Nat.le_of_ble_eq_true rfl)⟩ k_325 h_325 (q0 := 1) rfl rfl (kW_pm aa ad t _ _ _) (kW_pm aa ad t _ _ _).symm ⟨(Nat.le_of_ble_eq_true rfl), (Nat.le_of_ble_eq_true rfl)⟩ (Nat.le_of_ble_eq_true rfl) dL_law_325 ?_
  refine j_aload_n (pc := 328) g 1 dL_law_328 rfl ?_
  obtain ⟨k_329, hf⟩ := gx_ck hf
  obtain ⟨r329, h_329, hf⟩ := gx_bs hf
  refine lv_refusedOrders (pc := 329) g (M := 500000) ⟨(Nat.le_of_ble_eq_true rfl), (Nat.le_of_ble_eq_true rfl)⟩ k_329 h_329 (q0 := 1) rfl rfl (kW_pm aa ad t _ _ _) (kW_pm aa ad t _ _ _).symm ⟨(Nat.le_of_ble_eq_true rfl), (Nat.le_of_ble_eq_true rfl)⟩ (Nat.le_of_ble_eq_true rfl) dL_law_329 ?_
  refine j_iadd (pc := 332) g dL_law_332 ?_
  refine j_aload_n (pc := 333) g 1 dL_law_333 rfl ?_
  obtain ⟨k_334, hf⟩ := gx_ck hf
  obtain ⟨r334, h_334, hf⟩ := gx_bs hf
  refine lv_lostOrders (pc := 334) g (M := 500000) ⟨(Nat.le_of_ble_eq_true rfl), (Nat.le_of_ble_eq_true rfl)⟩ k_334 h_334 (q0 := 1) rfl rfl (kW_pm aa ad t _ _ _) (kW_pm aa ad t _ _ _).symm ⟨(Nat.le_of_ble_eq_true rfl), (Nat.le_of_ble_eq_true rfl)⟩ (Nat.le_of_ble_eq_true rfl) dL_law_334 ?_
  refine j_iadd (pc := 337) g dL_law_337 ?_
  refine j_istore (L' := [(25, .int ((r325 + r329) + r334)), (0, .ref (xB aa)), (1, .ref (ad 0)), (2, .ref os), (3, .int v3), (4, .int v4), (5, .int v5), (6, .int v6), (7, .long v7), (9, .int v9), (10, .int v10), (11, .int v11), (12, .int v12), (13, .int v13), (14, .int v14), (15, .int v15), (16, .int v16), (17, .int v17), (18, .int v18), (19, .int v19), (20, .int v20), (21, .int v21), (22, .int v22), (23, .int v23), (24, .int v24)]) (pc := 338) g dL_law_338 (Nat.le_of_ble_eq_true rfl) rfl ?_
  refine j_iload (pc := 340) g 6 dL_law_340 rfl ?_
  refine j_aload_n (pc := 342) g 2 dL_law_342 rfl ?_
  obtain ⟨k_343, hf⟩ := gx_ck hf
  obtain ⟨r343, h_343, hf⟩ := gx_bs hf
  refine lv_orderCount (pc := 343) g (M := 500000) ⟨(Nat.le_of_ble_eq_true rfl), (Nat.le_of_ble_eq_true rfl)⟩ k_343 h_343 (q0 := 1) rfl rfl (kW_pm aa ad t _ _ _) (kW_pm aa ad t _ _ _).symm ⟨(Nat.le_of_ble_eq_true rfl), (Nat.le_of_ble_eq_true rfl)⟩ (Nat.le_of_ble_eq_true rfl) dL_law_343 ?_
  refine j_iload (pc := 346) g 0 dL_law_346 rfl ?_
  refine j_iadd (pc := 348) g dL_law_348 ?_
  refine j_icmp_ne (tgt := 356) (pc := 349) g dL_law_349 (by decide) (fun c_349 => ?_) (fun c_349 => ?_)
  · have hf := gx_if c_349 hf
    refine j_iconst (v := 0) (pc := 356) g dL_law_356 (by decide) ?_
    refine j_istore (L' := [(26, .int (0 : Int32)), (25, .int ((r325 + r329) + r334)), (0, .ref (xB aa)), (1, .ref (ad 0)), (2, .ref os), (3, .int v3), (4, .int v4), (5, .int v5), (6, .int v6), (7, .long v7), (9, .int v9), (10, .int v10), (11, .int v11), (12, .int v12), (13, .int v13), (14, .int v14), (15, .int v15), (16, .int v16), (17, .int v17), (18, .int v18), (19, .int v19), (20, .int v20), (21, .int v21), (22, .int v22), (23, .int v23), (24, .int v24)]) (pc := 357) g dL_law_357 (Nat.le_of_ble_eq_true rfl) rfl ?_
    refine j_sub (pc := 359) g [2, 3, 4, 5, 6, 7, 8, 9, 10, 11, 12, 13, 14, 15, 16, 17, 18, 19, 20, 21, 22, 23, 24, 25, 1, 0] rfl ?_
    exact tL_law_359 hst hxl g hE hk31 σ v3 v4 v5 v6 v7 v9 v10 v11 v12 v13 v14 v15 v16 v17 v18 v19 v20 v21 v22 v23 v24 ((r325 + r329) + r334) (0 : Int32) hf
  · have hf := gx_it c_349 hf
    refine j_iconst (v := 1) (pc := 352) g dL_law_352 (by decide) ?_
    refine j_goto (tgt := 357) (pc := 353) g dL_law_353 (by decide) ?_
    refine j_istore (L' := [(26, .int (1 : Int32)), (25, .int ((r325 + r329) + r334)), (0, .ref (xB aa)), (1, .ref (ad 0)), (2, .ref os), (3, .int v3), (4, .int v4), (5, .int v5), (6, .int v6), (7, .long v7), (9, .int v9), (10, .int v10), (11, .int v11), (12, .int v12), (13, .int v13), (14, .int v14), (15, .int v15), (16, .int v16), (17, .int v17), (18, .int v18), (19, .int v19), (20, .int v20), (21, .int v21), (22, .int v22), (23, .int v23), (24, .int v24)]) (pc := 357) g dL_law_357 (Nat.le_of_ble_eq_true rfl) rfl ?_
    refine j_sub (pc := 359) g [2, 3, 4, 5, 6, 7, 8, 9, 10, 11, 12, 13, 14, 15, 16, 17, 18, 19, 20, 21, 22, 23, 24, 25, 1, 0] rfl ?_
    exact tL_law_359 hst hxl g hE hk31 σ v3 v4 v5 v6 v7 v9 v10 v11 v12 v13 v14 v15 v16 v17 v18 v19 v20 v21 v22 v23 v24 ((r325 + r329) + r334) (1 : Int32) hf
set_option maxRecDepth 100000 in
set_option maxHeartbeats 8000000 in
theorem tL_law_295 {D : va_G} {t : Nat → ClassId} {aa : gx_AA} {l : Launch} {J : gx_J} {ad : Nat → Nat} {rs : va_W} {os : Nat} {k31 : LwT → Int32 → Int32 → Int32 → Int32 → Option (Int32 × LwT)} {q : (Int32 × LwT)} (hst : l.stackTraces = false) (hxl : xL aa < 2 ^ 31) (g : gx_G D t (gx_E0 aa) l room_1 cL_law RL 28 J) (hE : ∀ (v : Int32) (σ : LwT) (pc : Nat) (L : List (Nat × Value)), some (v, σ) = some q → σ.2.1 ≤ 500000 → decode cL_law pc = .ok (.ireturn, 1) → narrow .boolean (.int v) = .int v → J σ.2.1 (6 * σ.2.1) ((os, .inl (t 4, 70, .inr (.inl σ.2.2))) :: kW aa ad t σ.1 rs) pc L [.int v]) (hk31 : ∀ (σ : LwT) (v3 : Int32) (v4 : Int32) (v5 : Int32) (v6 : Int32), k31 σ v3 v4 v5 v6 = some q → J σ.2.1 (6 * σ.2.1) ((os, .inl (t 4, 70, .inr (.inl σ.2.2))) :: kW aa ad t σ.1 rs) 31 [(0, .ref (xB aa)), (1, .ref (ad 0)), (2, .ref os), (3, .int v3), (4, .int v4), (5, .int v5), (6, .int v6)] []) : ∀ (σ : LwT) (v3 : Int32) (v4 : Int32) (v5 : Int32) (v6 : Int32) (v7 : Int64) (v9 : Int32) (v10 : Int32) (v11 : Int32) (v12 : Int32) (v13 : Int32) (v14 : Int32) (v15 : Int32) (v16 : Int32) (v17 : Int32) (v18 : Int32) (v19 : Int32) (v20 : Int32) (v21 : Int32) (v22 : Int32) (v23 : Int32) (v24 : Int32), fL_law_295 aa k31 σ v3 v4 v5 v6 v7 v9 v10 v11 v12 v13 v14 v15 v16 v17 v18 v19 v20 v21 v22 v23 v24 = some q → J σ.2.1 (6 * σ.2.1) ((os, .inl (t 4, 70, .inr (.inl σ.2.2))) :: kW aa ad t σ.1 rs) 295 [(0, .ref (xB aa)), (1, .ref (ad 0)), (2, .ref os), (3, .int v3), (4, .int v4), (5, .int v5), (6, .int v6), (7, .long v7), (9, .int v9), (10, .int v10), (11, .int v11), (12, .int v12), (13, .int v13), (14, .int v14), (15, .int v15), (16, .int v16), (17, .int v17), (18, .int v18), (19, .int v19), (20, .int v20), (21, .int v21), (22, .int v22), (23, .int v23), (24, .int v24)] [] := by
  intro σ v3 v4 v5 v6 v7 v9 v10 v11 v12 v13 v14 v15 v16 v17 v18 v19 v20 v21 v22 v23 v24 hf
  unfold fL_law_295 at hf
  refine j_iload (pc := 295) g 5 dL_law_295 rfl ?_
  refine j_iload (pc := 297) g 23 dL_law_297 rfl ?_
  refine j_if_eq (tgt := 320) (pc := 299) g dL_law_299 (by decide) (fun c_299 => ?_) (fun c_299 => ?_)
  · have hf := gx_it c_299 hf
    refine j_iconst (v := 0) (pc := 320) g dL_law_320 (by decide) ?_
    refine j_iadd (pc := 321) g dL_law_321 ?_
    refine j_istore (L' := [(5, .int (v5 + (0 : Int32))), (0, .ref (xB aa)), (1, .ref (ad 0)), (2, .ref os), (3, .int v3), (4, .int v4), (6, .int v6), (7, .long v7), (9, .int v9), (10, .int v10), (11, .int v11), (12, .int v12), (13, .int v13), (14, .int v14), (15, .int v15), (16, .int v16), (17, .int v17), (18, .int v18), (19, .int v19), (20, .int v20), (21, .int v21), (22, .int v22), (23, .int v23), (24, .int v24)]) (pc := 322) g dL_law_322 (Nat.le_of_ble_eq_true rfl) rfl ?_
    refine j_sub (pc := 324) g [1, 2, 3, 4, 5, 0, 6, 7, 8, 9, 10, 11, 12, 13, 14, 15, 16, 17, 18, 19, 20, 21, 22, 23] rfl ?_
    exact tL_law_324 hst hxl g hE hk31 σ v3 v4 (v5 + (0 : Int32)) v6 v7 v9 v10 v11 v12 v13 v14 v15 v16 v17 v18 v19 v20 v21 v22 v23 v24 hf
  · have hf := gx_if c_299 hf
    refine j_iload (pc := 302) g 9 dL_law_302 rfl ?_
    refine j_bipush (v := 15) (pc := 304) g dL_law_304 (by decide) ?_
    refine j_icmp_le (tgt := 320) (pc := 306) g dL_law_306 (by decide) (fun c_306 => ?_) (fun c_306 => ?_)
    · have hf := gx_it c_306 hf
      refine j_iconst (v := 0) (pc := 320) g dL_law_320 (by decide) ?_
      refine j_iadd (pc := 321) g dL_law_321 ?_
      refine j_istore (L' := [(5, .int (v5 + (0 : Int32))), (0, .ref (xB aa)), (1, .ref (ad 0)), (2, .ref os), (3, .int v3), (4, .int v4), (6, .int v6), (7, .long v7), (9, .int v9), (10, .int v10), (11, .int v11), (12, .int v12), (13, .int v13), (14, .int v14), (15, .int v15), (16, .int v16), (17, .int v17), (18, .int v18), (19, .int v19), (20, .int v20), (21, .int v21), (22, .int v22), (23, .int v23), (24, .int v24)]) (pc := 322) g dL_law_322 (Nat.le_of_ble_eq_true rfl) rfl ?_
      refine j_sub (pc := 324) g [1, 2, 3, 4, 5, 0, 6, 7, 8, 9, 10, 11, 12, 13, 14, 15, 16, 17, 18, 19, 20, 21, 22, 23] rfl ?_
      exact tL_law_324 hst hxl g hE hk31 σ v3 v4 (v5 + (0 : Int32)) v6 v7 v9 v10 v11 v12 v13 v14 v15 v16 v17 v18 v19 v20 v21 v22 v23 v24 hf
    · have hf := gx_if c_306 hf
      refine j_iload (pc := 309) g 9 dL_law_309 rfl ?_
      refine j_bipush (v := 27) (pc := 311) g dL_law_311 (by decide) ?_
      refine j_icmp_ge (tgt := 320) (pc := 313) g dL_law_313 (by decide) (fun c_313 => ?_) (fun c_313 => ?_)
      · have hf := gx_it c_313 hf
        refine j_iconst (v := 0) (pc := 320) g dL_law_320 (by decide) ?_
        refine j_iadd (pc := 321) g dL_law_321 ?_
        refine j_istore (L' := [(5, .int (v5 + (0 : Int32))), (0, .ref (xB aa)), (1, .ref (ad 0)), (2, .ref os), (3, .int v3), (4, .int v4), (6, .int v6), (7, .long v7), (9, .int v9), (10, .int v10), (11, .int v11), (12, .int v12), (13, .int v13), (14, .int v14), (15, .int v15), (16, .int v16), (17, .int v17), (18, .int v18), (19, .int v19), (20, .int v20), (21, .int v21), (22, .int v22), (23, .int v23), (24, .int v24)]) (pc := 322) g dL_law_322 (Nat.le_of_ble_eq_true rfl) rfl ?_
        refine j_sub (pc := 324) g [1, 2, 3, 4, 5, 0, 6, 7, 8, 9, 10, 11, 12, 13, 14, 15, 16, 17, 18, 19, 20, 21, 22, 23] rfl ?_
        exact tL_law_324 hst hxl g hE hk31 σ v3 v4 (v5 + (0 : Int32)) v6 v7 v9 v10 v11 v12 v13 v14 v15 v16 v17 v18 v19 v20 v21 v22 v23 v24 hf
      · have hf := gx_if c_313 hf
        refine j_iconst (v := 1) (pc := 316) g dL_law_316 (by decide) ?_
        refine j_goto (tgt := 321) (pc := 317) g dL_law_317 (by decide) ?_
        refine j_iadd (pc := 321) g dL_law_321 ?_
        refine j_istore (L' := [(5, .int (v5 + (1 : Int32))), (0, .ref (xB aa)), (1, .ref (ad 0)), (2, .ref os), (3, .int v3), (4, .int v4), (6, .int v6), (7, .long v7), (9, .int v9), (10, .int v10), (11, .int v11), (12, .int v12), (13, .int v13), (14, .int v14), (15, .int v15), (16, .int v16), (17, .int v17), (18, .int v18), (19, .int v19), (20, .int v20), (21, .int v21), (22, .int v22), (23, .int v23), (24, .int v24)]) (pc := 322) g dL_law_322 (Nat.le_of_ble_eq_true rfl) rfl ?_
        refine j_sub (pc := 324) g [1, 2, 3, 4, 5, 0, 6, 7, 8, 9, 10, 11, 12, 13, 14, 15, 16, 17, 18, 19, 20, 21, 22, 23] rfl ?_
        exact tL_law_324 hst hxl g hE hk31 σ v3 v4 (v5 + (1 : Int32)) v6 v7 v9 v10 v11 v12 v13 v14 v15 v16 v17 v18 v19 v20 v21 v22 v23 v24 hf
set_option maxRecDepth 100000 in
set_option maxHeartbeats 8000000 in
theorem tL_law_264 {D : va_G} {t : Nat → ClassId} {aa : gx_AA} {l : Launch} {J : gx_J} {ad : Nat → Nat} {rs : va_W} {os : Nat} {k31 : LwT → Int32 → Int32 → Int32 → Int32 → Option (Int32 × LwT)} {q : (Int32 × LwT)} (hst : l.stackTraces = false) (hxl : xL aa < 2 ^ 31) (g : gx_G D t (gx_E0 aa) l room_1 cL_law RL 28 J) (hE : ∀ (v : Int32) (σ : LwT) (pc : Nat) (L : List (Nat × Value)), some (v, σ) = some q → σ.2.1 ≤ 500000 → decode cL_law pc = .ok (.ireturn, 1) → narrow .boolean (.int v) = .int v → J σ.2.1 (6 * σ.2.1) ((os, .inl (t 4, 70, .inr (.inl σ.2.2))) :: kW aa ad t σ.1 rs) pc L [.int v]) (hk31 : ∀ (σ : LwT) (v3 : Int32) (v4 : Int32) (v5 : Int32) (v6 : Int32), k31 σ v3 v4 v5 v6 = some q → J σ.2.1 (6 * σ.2.1) ((os, .inl (t 4, 70, .inr (.inl σ.2.2))) :: kW aa ad t σ.1 rs) 31 [(0, .ref (xB aa)), (1, .ref (ad 0)), (2, .ref os), (3, .int v3), (4, .int v4), (5, .int v5), (6, .int v6)] []) : ∀ (σ : LwT) (v3 : Int32) (v4 : Int32) (v5 : Int32) (v6 : Int32) (v7 : Int64) (v9 : Int32) (v10 : Int32) (v11 : Int32) (v12 : Int32) (v13 : Int32) (v14 : Int32) (v15 : Int32) (v16 : Int32) (v17 : Int32) (v18 : Int32) (v19 : Int32) (v20 : Int32) (v21 : Int32) (v22 : Int32), fL_law_264 aa k31 σ v3 v4 v5 v6 v7 v9 v10 v11 v12 v13 v14 v15 v16 v17 v18 v19 v20 v21 v22 = some q → J σ.2.1 (6 * σ.2.1) ((os, .inl (t 4, 70, .inr (.inl σ.2.2))) :: kW aa ad t σ.1 rs) 264 [(0, .ref (xB aa)), (1, .ref (ad 0)), (2, .ref os), (3, .int v3), (4, .int v4), (5, .int v5), (6, .int v6), (7, .long v7), (9, .int v9), (10, .int v10), (11, .int v11), (12, .int v12), (13, .int v13), (14, .int v14), (15, .int v15), (16, .int v16), (17, .int v17), (18, .int v18), (19, .int v19), (20, .int v20), (21, .int v21), (22, .int v22)] [] := by
  intro σ v3 v4 v5 v6 v7 v9 v10 v11 v12 v13 v14 v15 v16 v17 v18 v19 v20 v21 v22 hf
  unfold fL_law_264 at hf
  refine j_aload_n (pc := 264) g 0 dL_law_264 rfl ?_
  refine j_iload (pc := 265) g 4 dL_law_265 rfl ?_
  refine j_iload (pc := 267) g 9 dL_law_267 rfl ?_
  refine j_aload_n (pc := 269) g 1 dL_law_269 rfl ?_
  refine j_iload (pc := 270) g 11 dL_law_270 rfl ?_
  refine j_iload (pc := 272) g 12 dL_law_272 rfl ?_
  refine j_iload (pc := 274) g 13 dL_law_274 rfl ?_
  obtain ⟨k_276, hf⟩ := gx_ck hf
  obtain ⟨r276, h_276, hf⟩ := gx_bs hf
  refine lc_does (pc := 276) g (M := 500000) ⟨(Nat.le_of_ble_eq_true rfl), (Nat.le_of_ble_eq_true rfl)⟩ hst hxl k_276 h_276 (kW_pm aa ad t _ _ _) (kW_pm aa ad t _ _ _).symm ⟨(Nat.le_of_ble_eq_true rfl), (Nat.le_of_ble_eq_true rfl)⟩ (Nat.le_of_ble_eq_true rfl) dL_law_276 ?_
  refine j_istore (L' := [(23, .int r276.1), (0, .ref (xB aa)), (1, .ref (ad 0)), (2, .ref os), (3, .int v3), (4, .int v4), (5, .int v5), (6, .int v6), (7, .long v7), (9, .int v9), (10, .int v10), (11, .int v11), (12, .int v12), (13, .int v13), (14, .int v14), (15, .int v15), (16, .int v16), (17, .int v17), (18, .int v18), (19, .int v19), (20, .int v20), (21, .int v21), (22, .int v22)]) (pc := 279) g dL_law_279 (Nat.le_of_ble_eq_true rfl) rfl ?_
  refine j_iload (pc := 281) g 0 dL_law_281 rfl ?_
  refine j_bipush (v := -70) (pc := 283) g dL_law_283 (by decide) ?_
  refine j_icmp_le (tgt := 292) (pc := 285) g dL_law_285 (by decide) (fun c_285 => ?_) (fun c_285 => ?_)
  · have hf := gx_it c_285 hf
    refine j_iconst (v := 0) (pc := 292) g dL_law_292 (by decide) ?_
    refine j_istore (L' := [(24, .int (0 : Int32)), (23, .int r276.1), (0, .ref (xB aa)), (1, .ref (ad 0)), (2, .ref os), (3, .int v3), (4, .int v4), (5, .int v5), (6, .int v6), (7, .long v7), (9, .int v9), (10, .int v10), (11, .int v11), (12, .int v12), (13, .int v13), (14, .int v14), (15, .int v15), (16, .int v16), (17, .int v17), (18, .int v18), (19, .int v19), (20, .int v20), (21, .int v21), (22, .int v22)]) (pc := 293) g dL_law_293 (Nat.le_of_ble_eq_true rfl) rfl ?_
    refine j_sub (pc := 295) g [2, 3, 4, 5, 6, 7, 8, 9, 10, 11, 12, 13, 14, 15, 16, 17, 18, 19, 20, 21, 22, 23, 1, 0] rfl ?_
    exact tL_law_295 hst hxl g hE hk31 (r276.2.1, σ.2.1 + 900, σ.2.2) v3 v4 v5 v6 v7 v9 v10 v11 v12 v13 v14 v15 v16 v17 v18 v19 v20 v21 v22 r276.1 (0 : Int32) hf
  · have hf := gx_if c_285 hf
    refine j_iconst (v := 1) (pc := 288) g dL_law_288 (by decide) ?_
    refine j_goto (tgt := 293) (pc := 289) g dL_law_289 (by decide) ?_
    refine j_istore (L' := [(24, .int (1 : Int32)), (23, .int r276.1), (0, .ref (xB aa)), (1, .ref (ad 0)), (2, .ref os), (3, .int v3), (4, .int v4), (5, .int v5), (6, .int v6), (7, .long v7), (9, .int v9), (10, .int v10), (11, .int v11), (12, .int v12), (13, .int v13), (14, .int v14), (15, .int v15), (16, .int v16), (17, .int v17), (18, .int v18), (19, .int v19), (20, .int v20), (21, .int v21), (22, .int v22)]) (pc := 293) g dL_law_293 (Nat.le_of_ble_eq_true rfl) rfl ?_
    refine j_sub (pc := 295) g [2, 3, 4, 5, 6, 7, 8, 9, 10, 11, 12, 13, 14, 15, 16, 17, 18, 19, 20, 21, 22, 23, 1, 0] rfl ?_
    exact tL_law_295 hst hxl g hE hk31 (r276.2.1, σ.2.1 + 900, σ.2.2) v3 v4 v5 v6 v7 v9 v10 v11 v12 v13 v14 v15 v16 v17 v18 v19 v20 v21 v22 r276.1 (1 : Int32) hf
set_option maxRecDepth 100000 in
set_option maxHeartbeats 8000000 in
theorem tL_law_233 {D : va_G} {t : Nat → ClassId} {aa : gx_AA} {l : Launch} {J : gx_J} {ad : Nat → Nat} {rs : va_W} {os : Nat} {k31 : LwT → Int32 → Int32 → Int32 → Int32 → Option (Int32 × LwT)} {q : (Int32 × LwT)} (hst : l.stackTraces = false) (hxl : xL aa < 2 ^ 31) (g : gx_G D t (gx_E0 aa) l room_1 cL_law RL 28 J) (hE : ∀ (v : Int32) (σ : LwT) (pc : Nat) (L : List (Nat × Value)), some (v, σ) = some q → σ.2.1 ≤ 500000 → decode cL_law pc = .ok (.ireturn, 1) → narrow .boolean (.int v) = .int v → J σ.2.1 (6 * σ.2.1) ((os, .inl (t 4, 70, .inr (.inl σ.2.2))) :: kW aa ad t σ.1 rs) pc L [.int v]) (hk31 : ∀ (σ : LwT) (v3 : Int32) (v4 : Int32) (v5 : Int32) (v6 : Int32), k31 σ v3 v4 v5 v6 = some q → J σ.2.1 (6 * σ.2.1) ((os, .inl (t 4, 70, .inr (.inl σ.2.2))) :: kW aa ad t σ.1 rs) 31 [(0, .ref (xB aa)), (1, .ref (ad 0)), (2, .ref os), (3, .int v3), (4, .int v4), (5, .int v5), (6, .int v6)] []) : ∀ (σ : LwT) (v3 : Int32) (v4 : Int32) (v5 : Int32) (v6 : Int32) (v7 : Int64) (v9 : Int32) (v10 : Int32) (v11 : Int32) (v12 : Int32) (v13 : Int32) (v14 : Int32) (v15 : Int32) (v16 : Int32) (v17 : Int32) (v18 : Int32) (v19 : Int32) (v20 : Int32) (v21 : Int32), fL_law_233 aa k31 σ v3 v4 v5 v6 v7 v9 v10 v11 v12 v13 v14 v15 v16 v17 v18 v19 v20 v21 = some q → J σ.2.1 (6 * σ.2.1) ((os, .inl (t 4, 70, .inr (.inl σ.2.2))) :: kW aa ad t σ.1 rs) 233 [(0, .ref (xB aa)), (1, .ref (ad 0)), (2, .ref os), (3, .int v3), (4, .int v4), (5, .int v5), (6, .int v6), (7, .long v7), (9, .int v9), (10, .int v10), (11, .int v11), (12, .int v12), (13, .int v13), (14, .int v14), (15, .int v15), (16, .int v16), (17, .int v17), (18, .int v18), (19, .int v19), (20, .int v20), (21, .int v21)] [] := by
  intro σ v3 v4 v5 v6 v7 v9 v10 v11 v12 v13 v14 v15 v16 v17 v18 v19 v20 v21 hf
  unfold fL_law_233 at hf
  refine j_iload (pc := 233) g 20 dL_law_233 rfl ?_
  refine j_if_le (tgt := 261) (pc := 235) g dL_law_235 (by decide) (fun c_235 => ?_) (fun c_235 => ?_)
  · have hf := gx_it c_235 hf
    refine j_iconst (v := -1) (pc := 261) g dL_law_261 (by decide) ?_
    refine j_istore (L' := [(22, .int (-1 : Int32)), (0, .ref (xB aa)), (1, .ref (ad 0)), (2, .ref os), (3, .int v3), (4, .int v4), (5, .int v5), (6, .int v6), (7, .long v7), (9, .int v9), (10, .int v10), (11, .int v11), (12, .int v12), (13, .int v13), (14, .int v14), (15, .int v15), (16, .int v16), (17, .int v17), (18, .int v18), (19, .int v19), (20, .int v20), (21, .int v21)]) (pc := 262) g dL_law_262 (Nat.le_of_ble_eq_true rfl) rfl ?_
    refine j_sub (pc := 264) g [1, 2, 3, 4, 5, 6, 7, 8, 9, 10, 11, 12, 13, 14, 15, 16, 17, 18, 19, 20, 21, 0] rfl ?_
    exact tL_law_264 hst hxl g hE hk31 σ v3 v4 v5 v6 v7 v9 v10 v11 v12 v13 v14 v15 v16 v17 v18 v19 v20 v21 (-1 : Int32) hf
  · have hf := gx_if c_235 hf
    refine j_aload_n (pc := 238) g 1 dL_law_238 rfl ?_
    refine j_aload_n (pc := 239) g 1 dL_law_239 rfl ?_
    refine j_iconst (v := 0) (pc := 240) g dL_law_240 (by decide) ?_
    obtain ⟨k_241, hf⟩ := gx_ck hf
    obtain ⟨r241, h_241, hf⟩ := gx_bs hf
    refine lc_holder (pc := 241) g (M := 500000) ⟨(Nat.le_of_ble_eq_true rfl), (Nat.le_of_ble_eq_true rfl)⟩ hst k_241 h_241 (kW_pm aa ad t _ _ _) (kW_pm aa ad t _ _ _).symm ⟨(Nat.le_of_ble_eq_true rfl), (Nat.le_of_ble_eq_true rfl)⟩ (Nat.le_of_ble_eq_true rfl) dL_law_241 ?_
    refine j_aload_n (pc := 244) g 1 dL_law_244 rfl ?_
    refine j_iconst (v := 0) (pc := 245) g dL_law_245 (by decide) ?_
    obtain ⟨k_246, hf⟩ := gx_ck hf
    obtain ⟨r246, h_246, hf⟩ := gx_bs hf
    refine lc_target (pc := 246) g (M := 500000) ⟨(Nat.le_of_ble_eq_true rfl), (Nat.le_of_ble_eq_true rfl)⟩ hst k_246 h_246 (kW_pm aa ad t _ _ _) (kW_pm aa ad t _ _ _).symm ⟨(Nat.le_of_ble_eq_true rfl), (Nat.le_of_ble_eq_true rfl)⟩ (Nat.le_of_ble_eq_true rfl) dL_law_246 ?_
    obtain ⟨k_249, hf⟩ := gx_ck hf
    obtain ⟨r249, h_249, hf⟩ := gx_bs hf
    refine lc_greatestSeverity (pc := 249) g (M := 500000) ⟨(Nat.le_of_ble_eq_true rfl), (Nat.le_of_ble_eq_true rfl)⟩ hst k_249 h_249 (kW_pm aa ad t _ _ _) (kW_pm aa ad t _ _ _).symm ⟨(Nat.le_of_ble_eq_true rfl), (Nat.le_of_ble_eq_true rfl)⟩ (Nat.le_of_ble_eq_true rfl) dL_law_249 ?_
    refine j_aload_n (pc := 252) g 1 dL_law_252 rfl ?_
    refine j_iconst (v := 0) (pc := 253) g dL_law_253 (by decide) ?_
    obtain ⟨k_254, hf⟩ := gx_ck hf
    obtain ⟨r254, h_254, hf⟩ := gx_bs hf
    refine lc_severity (pc := 254) g (M := 500000) ⟨(Nat.le_of_ble_eq_true rfl), (Nat.le_of_ble_eq_true rfl)⟩ hst k_254 h_254 (kW_pm aa ad t _ _ _) (kW_pm aa ad t _ _ _).symm ⟨(Nat.le_of_ble_eq_true rfl), (Nat.le_of_ble_eq_true rfl)⟩ (Nat.le_of_ble_eq_true rfl) dL_law_254 ?_
    refine j_isub (pc := 257) g dL_law_257 ?_
    refine j_goto (tgt := 262) (pc := 258) g dL_law_258 (by decide) ?_
    refine j_istore (L' := [(22, .int (r249.1 - r254.1)), (0, .ref (xB aa)), (1, .ref (ad 0)), (2, .ref os), (3, .int v3), (4, .int v4), (5, .int v5), (6, .int v6), (7, .long v7), (9, .int v9), (10, .int v10), (11, .int v11), (12, .int v12), (13, .int v13), (14, .int v14), (15, .int v15), (16, .int v16), (17, .int v17), (18, .int v18), (19, .int v19), (20, .int v20), (21, .int v21)]) (pc := 262) g dL_law_262 (Nat.le_of_ble_eq_true rfl) rfl ?_
    refine j_sub (pc := 264) g [1, 2, 3, 4, 5, 6, 7, 8, 9, 10, 11, 12, 13, 14, 15, 16, 17, 18, 19, 20, 21, 0] rfl ?_
    exact tL_law_264 hst hxl g hE hk31 (r254.2, (((σ.2.1 + 1) + 1) + 1) + 1, σ.2.2) v3 v4 v5 v6 v7 v9 v10 v11 v12 v13 v14 v15 v16 v17 v18 v19 v20 v21 (r249.1 - r254.1) hf
set_option maxRecDepth 100000 in
set_option maxHeartbeats 8000000 in
theorem tL_law_145 {D : va_G} {t : Nat → ClassId} {aa : gx_AA} {l : Launch} {J : gx_J} {ad : Nat → Nat} {rs : va_W} {os : Nat} {k31 : LwT → Int32 → Int32 → Int32 → Int32 → Option (Int32 × LwT)} {q : (Int32 × LwT)} (hst : l.stackTraces = false) (hxl : xL aa < 2 ^ 31) (g : gx_G D t (gx_E0 aa) l room_1 cL_law RL 28 J) (hE : ∀ (v : Int32) (σ : LwT) (pc : Nat) (L : List (Nat × Value)), some (v, σ) = some q → σ.2.1 ≤ 500000 → decode cL_law pc = .ok (.ireturn, 1) → narrow .boolean (.int v) = .int v → J σ.2.1 (6 * σ.2.1) ((os, .inl (t 4, 70, .inr (.inl σ.2.2))) :: kW aa ad t σ.1 rs) pc L [.int v]) (hk31 : ∀ (σ : LwT) (v3 : Int32) (v4 : Int32) (v5 : Int32) (v6 : Int32), k31 σ v3 v4 v5 v6 = some q → J σ.2.1 (6 * σ.2.1) ((os, .inl (t 4, 70, .inr (.inl σ.2.2))) :: kW aa ad t σ.1 rs) 31 [(0, .ref (xB aa)), (1, .ref (ad 0)), (2, .ref os), (3, .int v3), (4, .int v4), (5, .int v5), (6, .int v6)] []) : ∀ (σ : LwT) (v3 : Int32) (v4 : Int32) (v5 : Int32) (v6 : Int32) (v7 : Int64) (v9 : Int32) (v10 : Int32) (v11 : Int32) (v12 : Int32) (v13 : Int32), fL_law_145 aa k31 σ v3 v4 v5 v6 v7 v9 v10 v11 v12 v13 = some q → J σ.2.1 (6 * σ.2.1) ((os, .inl (t 4, 70, .inr (.inl σ.2.2))) :: kW aa ad t σ.1 rs) 145 [(0, .ref (xB aa)), (1, .ref (ad 0)), (2, .ref os), (3, .int v3), (4, .int v4), (5, .int v5), (6, .int v6), (7, .long v7), (9, .int v9), (10, .int v10), (11, .int v11), (12, .int v12), (13, .int v13)] [] := by
  intro σ v3 v4 v5 v6 v7 v9 v10 v11 v12 v13 hf
  unfold fL_law_145 at hf
  refine j_aload_n (pc := 145) g 0 dL_law_145 rfl ?_
  refine j_iload (pc := 146) g 4 dL_law_146 rfl ?_
  refine j_iconst (v := 3) (pc := 148) g dL_law_148 (by decide) ?_
  refine j_iadd (pc := 149) g dL_law_149 ?_
  refine j_bipush (v := 8) (pc := 150) g dL_law_150 (by decide) ?_
  obtain ⟨h_152, hf⟩ := gx_ck hf
  refine lc_pick (pc := 152) g (M := 500000) ⟨(Nat.le_of_ble_eq_true rfl), (Nat.le_of_ble_eq_true rfl)⟩ hxl h_152 ⟨(Nat.le_of_ble_eq_true rfl), (Nat.le_of_ble_eq_true rfl)⟩ (Nat.le_of_ble_eq_true rfl) dL_law_152 ?_
  refine j_istore (L' := [(14, .int (xpick aa (v4 + (3 : Int32)) (8 : Int32))), (0, .ref (xB aa)), (1, .ref (ad 0)), (2, .ref os), (3, .int v3), (4, .int v4), (5, .int v5), (6, .int v6), (7, .long v7), (9, .int v9), (10, .int v10), (11, .int v11), (12, .int v12), (13, .int v13)]) (pc := 155) g dL_law_155 (Nat.le_of_ble_eq_true rfl) rfl ?_
  refine j_aload_n (pc := 157) g 2 dL_law_157 rfl ?_
  obtain ⟨k_158, hf⟩ := gx_ck hf
  obtain ⟨r158, h_158, hf⟩ := gx_bs hf
  refine lv_orderCount (pc := 158) g (M := 500000) ⟨(Nat.le_of_ble_eq_true rfl), (Nat.le_of_ble_eq_true rfl)⟩ k_158 h_158 (q0 := 1) rfl rfl (kW_pm aa ad t _ _ _) (kW_pm aa ad t _ _ _).symm ⟨(Nat.le_of_ble_eq_true rfl), (Nat.le_of_ble_eq_true rfl)⟩ (Nat.le_of_ble_eq_true rfl) dL_law_158 ?_
  refine j_istore (L' := [(15, .int r158), (14, .int (xpick aa (v4 + (3 : Int32)) (8 : Int32))), (0, .ref (xB aa)), (1, .ref (ad 0)), (2, .ref os), (3, .int v3), (4, .int v4), (5, .int v5), (6, .int v6), (7, .long v7), (9, .int v9), (10, .int v10), (11, .int v11), (12, .int v12), (13, .int v13)]) (pc := 161) g dL_law_161 (Nat.le_of_ble_eq_true rfl) rfl ?_
  refine j_aload_n (pc := 163) g 3 dL_law_163 rfl ?_
  obtain ⟨k_164, hf⟩ := gx_ck hf
  obtain ⟨r164, h_164, hf⟩ := gx_bs hf
  refine lv_executedOrders (pc := 164) g (M := 500000) ⟨(Nat.le_of_ble_eq_true rfl), (Nat.le_of_ble_eq_true rfl)⟩ k_164 h_164 (q0 := 1) rfl rfl (kW_pm aa ad t _ _ _) (kW_pm aa ad t _ _ _).symm ⟨(Nat.le_of_ble_eq_true rfl), (Nat.le_of_ble_eq_true rfl)⟩ (Nat.le_of_ble_eq_true rfl) dL_law_164 ?_
  refine j_aload_n (pc := 167) g 3 dL_law_167 rfl ?_
  obtain ⟨k_168, hf⟩ := gx_ck hf
  obtain ⟨r168, h_168, hf⟩ := gx_bs hf
  refine lv_refusedOrders (pc := 168) g (M := 500000) ⟨(Nat.le_of_ble_eq_true rfl), (Nat.le_of_ble_eq_true rfl)⟩ k_168 h_168 (q0 := 1) rfl rfl (kW_pm aa ad t _ _ _) (kW_pm aa ad t _ _ _).symm ⟨(Nat.le_of_ble_eq_true rfl), (Nat.le_of_ble_eq_true rfl)⟩ (Nat.le_of_ble_eq_true rfl) dL_law_168 ?_
  refine j_iadd (pc := 171) g dL_law_171 ?_
  refine j_aload_n (pc := 172) g 3 dL_law_172 rfl ?_
  obtain ⟨k_173, hf⟩ := gx_ck hf
  obtain ⟨r173, h_173, hf⟩ := gx_bs hf
  refine lv_lostOrders (pc := 173) g (M := 500000) ⟨(Nat.le_of_ble_eq_true rfl), (Nat.le_of_ble_eq_true rfl)⟩ k_173 h_173 (q0 := 1) rfl rfl (kW_pm aa ad t _ _ _) (kW_pm aa ad t _ _ _).symm ⟨(Nat.le_of_ble_eq_true rfl), (Nat.le_of_ble_eq_true rfl)⟩ (Nat.le_of_ble_eq_true rfl) dL_law_173 ?_
  refine j_iadd (pc := 176) g dL_law_176 ?_
  refine j_istore (L' := [(16, .int ((r164 + r168) + r173)), (15, .int r158), (14, .int (xpick aa (v4 + (3 : Int32)) (8 : Int32))), (0, .ref (xB aa)), (1, .ref (ad 0)), (2, .ref os), (3, .int v3), (4, .int v4), (5, .int v5), (6, .int v6), (7, .long v7), (9, .int v9), (10, .int v10), (11, .int v11), (12, .int v12), (13, .int v13)]) (pc := 177) g dL_law_177 (Nat.le_of_ble_eq_true rfl) rfl ?_
  refine j_aload_n (pc := 179) g 4 dL_law_179 rfl ?_
  obtain ⟨k_180, hf⟩ := gx_ck hf
  obtain ⟨r180, h_180, hf⟩ := gx_bs hf
  refine lv_executedOrders (pc := 180) g (M := 500000) ⟨(Nat.le_of_ble_eq_true rfl), (Nat.le_of_ble_eq_true rfl)⟩ k_180 h_180 (q0 := 1) rfl rfl (kW_pm aa ad t _ _ _) (kW_pm aa ad t _ _ _).symm ⟨(Nat.le_of_ble_eq_true rfl), (Nat.le_of_ble_eq_true rfl)⟩ (Nat.le_of_ble_eq_true rfl) dL_law_180 ?_
  refine j_istore (L' := [(17, .int r180), (16, .int ((r164 + r168) + r173)), (15, .int r158), (14, .int (xpick aa (v4 + (3 : Int32)) (8 : Int32))), (0, .ref (xB aa)), (1, .ref (ad 0)), (2, .ref os), (3, .int v3), (4, .int v4), (5, .int v5), (6, .int v6), (7, .long v7), (9, .int v9), (10, .int v10), (11, .int v11), (12, .int v12), (13, .int v13)]) (pc := 183) g dL_law_183 (Nat.le_of_ble_eq_true rfl) rfl ?_
  refine j_aload_n (pc := 185) g 5 dL_law_185 rfl ?_
  refine j_iload (pc := 186) g 15 dL_law_186 rfl ?_
  obtain ⟨k_188, hf⟩ := gx_ck hf
  obtain ⟨r188, h_188, hf⟩ := gx_bs hf
  refine lc_commandSize (pc := 188) g (M := 500000) ⟨(Nat.le_of_ble_eq_true rfl), (Nat.le_of_ble_eq_true rfl)⟩ hst k_188 h_188 (kW_pm aa ad t _ _ _) (kW_pm aa ad t _ _ _).symm ⟨(Nat.le_of_ble_eq_true rfl), (Nat.le_of_ble_eq_true rfl)⟩ (Nat.le_of_ble_eq_true rfl) dL_law_188 ?_
  refine j_istore (L' := [(18, .int r188.1), (17, .int r180), (16, .int ((r164 + r168) + r173)), (15, .int r158), (14, .int (xpick aa (v4 + (3 : Int32)) (8 : Int32))), (0, .ref (xB aa)), (1, .ref (ad 0)), (2, .ref os), (3, .int v3), (4, .int v4), (5, .int v5), (6, .int v6), (7, .long v7), (9, .int v9), (10, .int v10), (11, .int v11), (12, .int v12), (13, .int v13)]) (pc := 191) g dL_law_191 (Nat.le_of_ble_eq_true rfl) rfl ?_
  refine j_aload_n (pc := 193) g 6 dL_law_193 rfl ?_
  refine j_iload (pc := 194) g 16 dL_law_194 rfl ?_
  obtain ⟨k_196, hf⟩ := gx_ck hf
  obtain ⟨r196, h_196, hf⟩ := gx_bs hf
  refine lc_subordinates (pc := 196) g (M := 500000) ⟨(Nat.le_of_ble_eq_true rfl), (Nat.le_of_ble_eq_true rfl)⟩ hst k_196 h_196 (kW_pm aa ad t _ _ _) (kW_pm aa ad t _ _ _).symm ⟨(Nat.le_of_ble_eq_true rfl), (Nat.le_of_ble_eq_true rfl)⟩ (Nat.le_of_ble_eq_true rfl) dL_law_196 ?_
  refine j_istore (L' := [(19, .int r196.1), (18, .int r188.1), (17, .int r180), (16, .int ((r164 + r168) + r173)), (15, .int r158), (14, .int (xpick aa (v4 + (3 : Int32)) (8 : Int32))), (0, .ref (xB aa)), (1, .ref (ad 0)), (2, .ref os), (3, .int v3), (4, .int v4), (5, .int v5), (6, .int v6), (7, .long v7), (9, .int v9), (10, .int v10), (11, .int v11), (12, .int v12), (13, .int v13)]) (pc := 199) g dL_law_199 (Nat.le_of_ble_eq_true rfl) rfl ?_
  refine j_aload_n (pc := 201) g 7 dL_law_201 rfl ?_
  obtain ⟨k_202, hf⟩ := gx_ck hf
  obtain ⟨r202, h_202, hf⟩ := gx_bs hf
  refine lv_officerCount (pc := 202) g (M := 500000) ⟨(Nat.le_of_ble_eq_true rfl), (Nat.le_of_ble_eq_true rfl)⟩ k_202 h_202 (q0 := 1) rfl rfl (kW_pm aa ad t _ _ _) (kW_pm aa ad t _ _ _).symm ⟨(Nat.le_of_ble_eq_true rfl), (Nat.le_of_ble_eq_true rfl)⟩ (Nat.le_of_ble_eq_true rfl) dL_law_202 ?_
  refine j_istore (L' := [(20, .int r202), (19, .int r196.1), (18, .int r188.1), (17, .int r180), (16, .int ((r164 + r168) + r173)), (15, .int r158), (14, .int (xpick aa (v4 + (3 : Int32)) (8 : Int32))), (0, .ref (xB aa)), (1, .ref (ad 0)), (2, .ref os), (3, .int v3), (4, .int v4), (5, .int v5), (6, .int v6), (7, .long v7), (9, .int v9), (10, .int v10), (11, .int v11), (12, .int v12), (13, .int v13)]) (pc := 205) g dL_law_205 (Nat.le_of_ble_eq_true rfl) rfl ?_
  refine j_iload (pc := 207) g 5 dL_law_207 rfl ?_
  refine j_iconst (v := 1) (pc := 209) g dL_law_209 (by decide) ?_
  refine j_icmp_ne (tgt := 230) (pc := 210) g dL_law_210 (by decide) (fun c_210 => ?_) (fun c_210 => ?_)
  · have hf := gx_if c_210 hf
    refine j_iconst (v := -1) (pc := 230) g dL_law_230 (by decide) ?_
    refine j_istore (L' := [(21, .int (-1 : Int32)), (20, .int r202), (19, .int r196.1), (18, .int r188.1), (17, .int r180), (16, .int ((r164 + r168) + r173)), (15, .int r158), (14, .int (xpick aa (v4 + (3 : Int32)) (8 : Int32))), (0, .ref (xB aa)), (1, .ref (ad 0)), (2, .ref os), (3, .int v3), (4, .int v4), (5, .int v5), (6, .int v6), (7, .long v7), (9, .int v9), (10, .int v10), (11, .int v11), (12, .int v12), (13, .int v13)]) (pc := 231) g dL_law_231 (Nat.le_of_ble_eq_true rfl) rfl ?_
    refine j_sub (pc := 233) g [8, 9, 10, 11, 12, 13, 14, 15, 16, 17, 18, 19, 20, 7, 6, 5, 4, 3, 2, 1, 0] rfl ?_
    exact tL_law_233 hst hxl g hE hk31 (r196.2, (σ.2.1 + 1) + 1, σ.2.2) v3 v4 v5 v6 v7 v9 v10 v11 v12 v13 (xpick aa (v4 + (3 : Int32)) (8 : Int32)) r158 ((r164 + r168) + r173) r180 r188.1 r196.1 r202 (-1 : Int32) hf
  · have hf := gx_it c_210 hf
    refine j_aload_n (pc := 213) g 8 dL_law_213 rfl ?_
    refine j_aload_n (pc := 214) g 8 dL_law_214 rfl ?_
    refine j_iconst (v := 0) (pc := 215) g dL_law_215 (by decide) ?_
    obtain ⟨k_216, hf⟩ := gx_ck hf
    obtain ⟨r216, h_216, hf⟩ := gx_bs hf
    refine lc_holder (pc := 216) g (M := 500000) ⟨(Nat.le_of_ble_eq_true rfl), (Nat.le_of_ble_eq_true rfl)⟩ hst k_216 h_216 (kW_pm aa ad t _ _ _) (kW_pm aa ad t _ _ _).symm ⟨(Nat.le_of_ble_eq_true rfl), (Nat.le_of_ble_eq_true rfl)⟩ (Nat.le_of_ble_eq_true rfl) dL_law_216 ?_
    refine j_aload_n (pc := 219) g 8 dL_law_219 rfl ?_
    refine j_iconst (v := 0) (pc := 220) g dL_law_220 (by decide) ?_
    obtain ⟨k_221, hf⟩ := gx_ck hf
    obtain ⟨r221, h_221, hf⟩ := gx_bs hf
    refine lc_target (pc := 221) g (M := 500000) ⟨(Nat.le_of_ble_eq_true rfl), (Nat.le_of_ble_eq_true rfl)⟩ hst k_221 h_221 (kW_pm aa ad t _ _ _) (kW_pm aa ad t _ _ _).symm ⟨(Nat.le_of_ble_eq_true rfl), (Nat.le_of_ble_eq_true rfl)⟩ (Nat.le_of_ble_eq_true rfl) dL_law_221 ?_
    obtain ⟨k_224, hf⟩ := gx_ck hf
    obtain ⟨r224, h_224, hf⟩ := gx_bs hf
    refine lc_hoursFor (pc := 224) g (M := 500000) ⟨(Nat.le_of_ble_eq_true rfl), (Nat.le_of_ble_eq_true rfl)⟩ hst k_224 h_224 (kW_pm aa ad t _ _ _) (kW_pm aa ad t _ _ _).symm ⟨(Nat.le_of_ble_eq_true rfl), (Nat.le_of_ble_eq_true rfl)⟩ (Nat.le_of_ble_eq_true rfl) dL_law_224 ?_
    refine j_goto (tgt := 231) (pc := 227) g dL_law_227 (by decide) ?_
    refine j_istore (L' := [(21, .int r224.1), (20, .int r202), (19, .int r196.1), (18, .int r188.1), (17, .int r180), (16, .int ((r164 + r168) + r173)), (15, .int r158), (14, .int (xpick aa (v4 + (3 : Int32)) (8 : Int32))), (0, .ref (xB aa)), (1, .ref (ad 0)), (2, .ref os), (3, .int v3), (4, .int v4), (5, .int v5), (6, .int v6), (7, .long v7), (9, .int v9), (10, .int v10), (11, .int v11), (12, .int v12), (13, .int v13)]) (pc := 231) g dL_law_231 (Nat.le_of_ble_eq_true rfl) rfl ?_
    refine j_sub (pc := 233) g [8, 9, 10, 11, 12, 13, 14, 15, 16, 17, 18, 19, 20, 7, 6, 5, 4, 3, 2, 1, 0] rfl ?_
    exact tL_law_233 hst hxl g hE hk31 (r224.2, ((((σ.2.1 + 1) + 1) + 1) + 1) + 1, σ.2.2) v3 v4 v5 v6 v7 v9 v10 v11 v12 v13 (xpick aa (v4 + (3 : Int32)) (8 : Int32)) r158 ((r164 + r168) + r173) r180 r188.1 r196.1 r202 r224.1 hf
set_option maxRecDepth 100000 in
set_option maxHeartbeats 8000000 in
theorem tL_law_117 {D : va_G} {t : Nat → ClassId} {aa : gx_AA} {l : Launch} {J : gx_J} {ad : Nat → Nat} {rs : va_W} {os : Nat} {k31 : LwT → Int32 → Int32 → Int32 → Int32 → Option (Int32 × LwT)} {q : (Int32 × LwT)} (hst : l.stackTraces = false) (hxl : xL aa < 2 ^ 31) (g : gx_G D t (gx_E0 aa) l room_1 cL_law RL 28 J) (hE : ∀ (v : Int32) (σ : LwT) (pc : Nat) (L : List (Nat × Value)), some (v, σ) = some q → σ.2.1 ≤ 500000 → decode cL_law pc = .ok (.ireturn, 1) → narrow .boolean (.int v) = .int v → J σ.2.1 (6 * σ.2.1) ((os, .inl (t 4, 70, .inr (.inl σ.2.2))) :: kW aa ad t σ.1 rs) pc L [.int v]) (hk31 : ∀ (σ : LwT) (v3 : Int32) (v4 : Int32) (v5 : Int32) (v6 : Int32), k31 σ v3 v4 v5 v6 = some q → J σ.2.1 (6 * σ.2.1) ((os, .inl (t 4, 70, .inr (.inl σ.2.2))) :: kW aa ad t σ.1 rs) 31 [(0, .ref (xB aa)), (1, .ref (ad 0)), (2, .ref os), (3, .int v3), (4, .int v4), (5, .int v5), (6, .int v6)] []) : ∀ (σ : LwT) (v3 : Int32) (v4 : Int32) (v5 : Int32) (v6 : Int32) (v7 : Int64) (v9 : Int32) (v10 : Int32) (v11 : Int32) (v12 : Int32), fL_law_117 aa k31 σ v3 v4 v5 v6 v7 v9 v10 v11 v12 = some q → J σ.2.1 (6 * σ.2.1) ((os, .inl (t 4, 70, .inr (.inl σ.2.2))) :: kW aa ad t σ.1 rs) 117 [(0, .ref (xB aa)), (1, .ref (ad 0)), (2, .ref os), (3, .int v3), (4, .int v4), (5, .int v5), (6, .int v6), (7, .long v7), (9, .int v9), (10, .int v10), (11, .int v11), (12, .int v12)] [] := by
  intro σ v3 v4 v5 v6 v7 v9 v10 v11 v12 hf
  unfold fL_law_117 at hf
  refine j_aload_n (pc := 117) g 0 dL_law_117 rfl ?_
  refine j_iload (pc := 118) g 4 dL_law_118 rfl ?_
  refine j_iconst (v := 2) (pc := 120) g dL_law_120 (by decide) ?_
  refine j_iadd (pc := 121) g dL_law_121 ?_
  refine j_iconst (v := 3) (pc := 122) g dL_law_122 (by decide) ?_
  obtain ⟨h_123, hf⟩ := gx_ck hf
  refine lc_pick (pc := 123) g (M := 500000) ⟨(Nat.le_of_ble_eq_true rfl), (Nat.le_of_ble_eq_true rfl)⟩ hxl h_123 ⟨(Nat.le_of_ble_eq_true rfl), (Nat.le_of_ble_eq_true rfl)⟩ (Nat.le_of_ble_eq_true rfl) dL_law_123 ?_
  refine j_if_ne (tgt := 142) (pc := 126) g dL_law_126 (by decide) (fun c_126 => ?_) (fun c_126 => ?_)
  · have hf := gx_if c_126 hf
    refine j_iconst (v := 0) (pc := 142) g dL_law_142 (by decide) ?_
    refine j_istore (L' := [(13, .int (0 : Int32)), (0, .ref (xB aa)), (1, .ref (ad 0)), (2, .ref os), (3, .int v3), (4, .int v4), (5, .int v5), (6, .int v6), (7, .long v7), (9, .int v9), (10, .int v10), (11, .int v11), (12, .int v12)]) (pc := 143) g dL_law_143 (Nat.le_of_ble_eq_true rfl) rfl ?_
    refine j_sub (pc := 145) g [1, 2, 3, 4, 5, 6, 7, 8, 9, 10, 11, 12, 0] rfl ?_
    exact tL_law_145 hst hxl g hE hk31 σ v3 v4 v5 v6 v7 v9 v10 v11 v12 (0 : Int32) hf
  · have hf := gx_it c_126 hf
    refine j_aload_n (pc := 129) g 0 dL_law_129 rfl ?_
    refine j_iload (pc := 130) g 4 dL_law_130 rfl ?_
    refine j_iconst (v := 2) (pc := 132) g dL_law_132 (by decide) ?_
    refine j_iadd (pc := 133) g dL_law_133 ?_
    refine j_iload (pc := 134) g 10 dL_law_134 rfl ?_
    obtain ⟨h_136, hf⟩ := gx_ck hf
    refine lc_pick (pc := 136) g (M := 500000) ⟨(Nat.le_of_ble_eq_true rfl), (Nat.le_of_ble_eq_true rfl)⟩ hxl h_136 ⟨(Nat.le_of_ble_eq_true rfl), (Nat.le_of_ble_eq_true rfl)⟩ (Nat.le_of_ble_eq_true rfl) dL_law_136 ?_
    refine j_goto (tgt := 143) (pc := 139) g dL_law_139 (by decide) ?_
    refine j_istore (L' := [(13, .int (xpick aa (v4 + (2 : Int32)) v11)), (0, .ref (xB aa)), (1, .ref (ad 0)), (2, .ref os), (3, .int v3), (4, .int v4), (5, .int v5), (6, .int v6), (7, .long v7), (9, .int v9), (10, .int v10), (11, .int v11), (12, .int v12)]) (pc := 143) g dL_law_143 (Nat.le_of_ble_eq_true rfl) rfl ?_
    refine j_sub (pc := 145) g [1, 2, 3, 4, 5, 6, 7, 8, 9, 10, 11, 12, 0] rfl ?_
    exact tL_law_145 hst hxl g hE hk31 σ v3 v4 v5 v6 v7 v9 v10 v11 v12 (xpick aa (v4 + (2 : Int32)) v11) hf
set_option maxRecDepth 100000 in
set_option maxHeartbeats 8000000 in
theorem tL_law_83 {D : va_G} {t : Nat → ClassId} {aa : gx_AA} {l : Launch} {J : gx_J} {ad : Nat → Nat} {rs : va_W} {os : Nat} {k31 : LwT → Int32 → Int32 → Int32 → Int32 → Option (Int32 × LwT)} {q : (Int32 × LwT)} (hst : l.stackTraces = false) (hxl : xL aa < 2 ^ 31) (g : gx_G D t (gx_E0 aa) l room_1 cL_law RL 28 J) (hE : ∀ (v : Int32) (σ : LwT) (pc : Nat) (L : List (Nat × Value)), some (v, σ) = some q → σ.2.1 ≤ 500000 → decode cL_law pc = .ok (.ireturn, 1) → narrow .boolean (.int v) = .int v → J σ.2.1 (6 * σ.2.1) ((os, .inl (t 4, 70, .inr (.inl σ.2.2))) :: kW aa ad t σ.1 rs) pc L [.int v]) (hk31 : ∀ (σ : LwT) (v3 : Int32) (v4 : Int32) (v5 : Int32) (v6 : Int32), k31 σ v3 v4 v5 v6 = some q → J σ.2.1 (6 * σ.2.1) ((os, .inl (t 4, 70, .inr (.inl σ.2.2))) :: kW aa ad t σ.1 rs) 31 [(0, .ref (xB aa)), (1, .ref (ad 0)), (2, .ref os), (3, .int v3), (4, .int v4), (5, .int v5), (6, .int v6)] []) : ∀ (σ : LwT) (v3 : Int32) (v4 : Int32) (v5 : Int32) (v6 : Int32) (v7 : Int64) (v9 : Int32) (v10 : Int32), fL_law_83 aa k31 σ v3 v4 v5 v6 v7 v9 v10 = some q → J σ.2.1 (6 * σ.2.1) ((os, .inl (t 4, 70, .inr (.inl σ.2.2))) :: kW aa ad t σ.1 rs) 83 [(0, .ref (xB aa)), (1, .ref (ad 0)), (2, .ref os), (3, .int v3), (4, .int v4), (5, .int v5), (6, .int v6), (7, .long v7), (9, .int v9), (10, .int v10)] [] := by
  intro σ v3 v4 v5 v6 v7 v9 v10 hf
  unfold fL_law_83 at hf
  refine j_aload_n (pc := 83) g 1 dL_law_83 rfl ?_
  obtain ⟨k_84, hf⟩ := gx_ck hf
  obtain ⟨r84, h_84, hf⟩ := gx_bs hf
  refine lv_appointedCount (pc := 84) g (M := 500000) ⟨(Nat.le_of_ble_eq_true rfl), (Nat.le_of_ble_eq_true rfl)⟩ k_84 h_84 (q0 := 1) rfl rfl (kW_pm aa ad t _ _ _) (kW_pm aa ad t _ _ _).symm ⟨(Nat.le_of_ble_eq_true rfl), (Nat.le_of_ble_eq_true rfl)⟩ (Nat.le_of_ble_eq_true rfl) dL_law_84 ?_
  refine j_istore (L' := [(11, .int r84), (0, .ref (xB aa)), (1, .ref (ad 0)), (2, .ref os), (3, .int v3), (4, .int v4), (5, .int v5), (6, .int v6), (7, .long v7), (9, .int v9), (10, .int v10)]) (pc := 87) g dL_law_87 (Nat.le_of_ble_eq_true rfl) rfl ?_
  refine j_aload_n (pc := 89) g 1 dL_law_89 rfl ?_
  refine j_iload (pc := 90) g 5 dL_law_90 rfl ?_
  refine j_iconst (v := 1) (pc := 92) g dL_law_92 (by decide) ?_
  refine j_iadd (pc := 93) g dL_law_93 ?_
  refine j_iload (pc := 94) g 0 dL_law_94 rfl ?_
  refine j_iload (pc := 96) g 7 dL_law_96 rfl ?_
  refine j_bipush (v := 13) (pc := 98) g dL_law_98 (by decide) ?_
  refine j_irem (pc := 100) g dL_law_100 (by decide) ?_
  refine j_bipush (v := 12) (pc := 101) g dL_law_101 (by decide) ?_
  refine j_icmp_ne (tgt := 110) (pc := 103) g dL_law_103 (by decide) (fun c_103 => ?_) (fun c_103 => ?_)
  · have hf := gx_if c_103 hf
    refine j_iconst (v := 0) (pc := 110) g dL_law_110 (by decide) ?_
    refine j_iadd (pc := 111) g dL_law_111 ?_
    obtain ⟨h_112, hf⟩ := gx_ck hf
    refine lc_pick (pc := 112) g (M := 500000) ⟨(Nat.le_of_ble_eq_true rfl), (Nat.le_of_ble_eq_true rfl)⟩ hxl h_112 ⟨(Nat.le_of_ble_eq_true rfl), (Nat.le_of_ble_eq_true rfl)⟩ (Nat.le_of_ble_eq_true rfl) dL_law_112 ?_
    refine j_istore (L' := [(12, .int (xpick aa (v4 + (1 : Int32)) (r84 + (0 : Int32)))), (11, .int r84), (0, .ref (xB aa)), (1, .ref (ad 0)), (2, .ref os), (3, .int v3), (4, .int v4), (5, .int v5), (6, .int v6), (7, .long v7), (9, .int v9), (10, .int v10)]) (pc := 115) g dL_law_115 (Nat.le_of_ble_eq_true rfl) rfl ?_
    refine j_sub (pc := 117) g [2, 3, 4, 5, 6, 7, 8, 9, 10, 11, 1, 0] rfl ?_
    exact tL_law_117 hst hxl g hE hk31 σ v3 v4 v5 v6 v7 v9 v10 r84 (xpick aa (v4 + (1 : Int32)) (r84 + (0 : Int32))) hf
  · have hf := gx_it c_103 hf
    refine j_iconst (v := 1) (pc := 106) g dL_law_106 (by decide) ?_
    refine j_goto (tgt := 111) (pc := 107) g dL_law_107 (by decide) ?_
    refine j_iadd (pc := 111) g dL_law_111 ?_
    obtain ⟨h_112, hf⟩ := gx_ck hf
    refine lc_pick (pc := 112) g (M := 500000) ⟨(Nat.le_of_ble_eq_true rfl), (Nat.le_of_ble_eq_true rfl)⟩ hxl h_112 ⟨(Nat.le_of_ble_eq_true rfl), (Nat.le_of_ble_eq_true rfl)⟩ (Nat.le_of_ble_eq_true rfl) dL_law_112 ?_
    refine j_istore (L' := [(12, .int (xpick aa (v4 + (1 : Int32)) (r84 + (1 : Int32)))), (11, .int r84), (0, .ref (xB aa)), (1, .ref (ad 0)), (2, .ref os), (3, .int v3), (4, .int v4), (5, .int v5), (6, .int v6), (7, .long v7), (9, .int v9), (10, .int v10)]) (pc := 115) g dL_law_115 (Nat.le_of_ble_eq_true rfl) rfl ?_
    refine j_sub (pc := 117) g [2, 3, 4, 5, 6, 7, 8, 9, 10, 11, 1, 0] rfl ?_
    exact tL_law_117 hst hxl g hE hk31 σ v3 v4 v5 v6 v7 v9 v10 r84 (xpick aa (v4 + (1 : Int32)) (r84 + (1 : Int32))) hf
set_option maxRecDepth 100000 in
set_option maxHeartbeats 8000000 in
theorem tL_law_31 {D : va_G} {t : Nat → ClassId} {aa : gx_AA} {l : Launch} {J : gx_J} {ad : Nat → Nat} {rs : va_W} {os : Nat} {q : (Int32 × LwT)} (hst : l.stackTraces = false) (hxl : xL aa < 2 ^ 31) (g : gx_G D t (gx_E0 aa) l room_1 cL_law RL 28 J) (hE : ∀ (v : Int32) (σ : LwT) (pc : Nat) (L : List (Nat × Value)), some (v, σ) = some q → σ.2.1 ≤ 500000 → decode cL_law pc = .ok (.ireturn, 1) → narrow .boolean (.int v) = .int v → J σ.2.1 (6 * σ.2.1) ((os, .inl (t 4, 70, .inr (.inl σ.2.2))) :: kW aa ad t σ.1 rs) pc L [.int v])  : ∀ (n : Nat) (σ : LwT) (v3 : Int32) (v4 : Int32) (v5 : Int32) (v6 : Int32), fL_law_31 aa n σ v3 v4 v5 v6 = some q → J σ.2.1 (6 * σ.2.1) ((os, .inl (t 4, 70, .inr (.inl σ.2.2))) :: kW aa ad t σ.1 rs) 31 [(0, .ref (xB aa)), (1, .ref (ad 0)), (2, .ref os), (3, .int v3), (4, .int v4), (5, .int v5), (6, .int v6)] [] := by
  intro n
  induction n with
  | zero => intro σ v3 v4 v5 v6 hf; cases hf
  | succ n ih =>
    intro σ v3 v4 v5 v6 hf
    replace hf := (fL_law_31_s aa n σ v3 v4 v5 v6).symm.trans hf
    refine j_iload (pc := 31) g 6 dL_law_31 rfl ?_
    refine j_bipush (v := 56) (pc := 33) g dL_law_33 (by decide) ?_
    refine j_icmp_ge (tgt := 861) (pc := 35) g dL_law_35 (by decide) (fun c_35 => ?_) (fun c_35 => ?_)
    · have hf := gx_it c_35 hf
      refine j_aload_n (pc := 861) g 1 dL_law_861 rfl ?_
      refine j_aload_n (pc := 862) g 2 dL_law_862 rfl ?_
      refine j_iload_n (pc := 863) g 3 dL_law_863 rfl ?_
      obtain ⟨k_864, hf⟩ := gx_ck hf
      obtain ⟨r864, h_864, hf⟩ := gx_bs hf
      refine lc_isKept (pc := 864) g (M := 500000) ⟨(Nat.le_of_ble_eq_true rfl), (Nat.le_of_ble_eq_true rfl)⟩ hst hxl k_864 h_864 (.refl _) (.refl _) ⟨(Nat.le_of_ble_eq_true rfl), (Nat.le_of_ble_eq_true rfl)⟩ (Nat.le_of_ble_eq_true rfl) dL_law_864 ?_
      obtain ⟨h_k, hf⟩ := gx_ck hf
      obtain ⟨h_r, hf⟩ := gx_ck hf
      exact hE _ _ _ _ hf h_k dL_law_867 (gx_narZ h_r)
    · have hf := gx_if c_35 hf
      refine j_aload_n (pc := 38) g 1 dL_law_38 rfl ?_
      obtain ⟨k_39, hf⟩ := gx_ck hf
      obtain ⟨r39, h_39, hf⟩ := gx_bs hf
      refine lc_sum (pc := 39) g (M := 500000) ⟨(Nat.le_of_ble_eq_true rfl), (Nat.le_of_ble_eq_true rfl)⟩ hst hxl k_39 h_39 (kW_pm aa ad t _ _ _) (kW_pm aa ad t _ _ _).symm ⟨(Nat.le_of_ble_eq_true rfl), (Nat.le_of_ble_eq_true rfl)⟩ (Nat.le_of_ble_eq_true rfl) dL_law_39 ?_
      refine j_lstore (L' := [(7, .long r39.1), (0, .ref (xB aa)), (1, .ref (ad 0)), (2, .ref os), (3, .int v3), (4, .int v4), (5, .int v5), (6, .int v6)]) (pc := 42) g dL_law_42 (Nat.le_of_ble_eq_true rfl) rfl ?_
      refine j_aload_n (pc := 44) g 2 dL_law_44 rfl ?_
      obtain ⟨k_45, hf⟩ := gx_ck hf
      obtain ⟨r45, h_45, hf⟩ := gx_bs hf
      refine lv_undoCount (pc := 45) g (M := 500000) ⟨(Nat.le_of_ble_eq_true rfl), (Nat.le_of_ble_eq_true rfl)⟩ k_45 h_45 (q0 := 1) rfl rfl (kW_pm aa ad t _ _ _) (kW_pm aa ad t _ _ _).symm ⟨(Nat.le_of_ble_eq_true rfl), (Nat.le_of_ble_eq_true rfl)⟩ (Nat.le_of_ble_eq_true rfl) dL_law_45 ?_
      refine j_istore (L' := [(9, .int r45), (7, .long r39.1), (0, .ref (xB aa)), (1, .ref (ad 0)), (2, .ref os), (3, .int v3), (4, .int v4), (5, .int v5), (6, .int v6)]) (pc := 48) g dL_law_48 (Nat.le_of_ble_eq_true rfl) rfl ?_
      refine j_iload (pc := 50) g 8 dL_law_50 rfl ?_
      refine j_bipush (v := 6) (pc := 52) g dL_law_52 (by decide) ?_
      refine j_icmp_ge (tgt := 61) (pc := 54) g dL_law_54 (by decide) (fun c_54 => ?_) (fun c_54 => ?_)
      · have hf := gx_it c_54 hf
        refine j_iload (pc := 61) g 8 dL_law_61 rfl ?_
        refine j_bipush (v := 9) (pc := 63) g dL_law_63 (by decide) ?_
        refine j_icmp_ge (tgt := 73) (pc := 65) g dL_law_65 (by decide) (fun c_65 => ?_) (fun c_65 => ?_)
        · have hf := gx_it c_65 hf
          refine j_aload_n (pc := 73) g 2 dL_law_73 rfl ?_
          refine j_iload (pc := 74) g 6 dL_law_74 rfl ?_
          refine j_bipush (v := 42) (pc := 76) g dL_law_76 (by decide) ?_
          obtain ⟨h_78, hf⟩ := gx_ck hf
          refine lc_pick (pc := 78) g (M := 500000) ⟨(Nat.le_of_ble_eq_true rfl), (Nat.le_of_ble_eq_true rfl)⟩ hxl h_78 ⟨(Nat.le_of_ble_eq_true rfl), (Nat.le_of_ble_eq_true rfl)⟩ (Nat.le_of_ble_eq_true rfl) dL_law_78 ?_
          refine j_istore (L' := [(10, .int (xpick aa v4 (42 : Int32))), (9, .int r45), (7, .long r39.1), (0, .ref (xB aa)), (1, .ref (ad 0)), (2, .ref os), (3, .int v3), (4, .int v4), (5, .int v5), (6, .int v6)]) (pc := 81) g dL_law_81 (Nat.le_of_ble_eq_true rfl) rfl ?_
          refine j_sub (pc := 83) g [3, 4, 5, 6, 7, 8, 9, 2, 1, 0] rfl ?_
          exact tL_law_83 hst hxl g hE ih (r39.2.1, σ.2.1 + 200, σ.2.2) v3 v4 v5 v6 r39.1 r45 (xpick aa v4 (42 : Int32)) hf
        · have hf := gx_if c_65 hf
          refine j_bipush (v := 16) (pc := 68) g dL_law_68 (by decide) ?_
          refine j_goto (tgt := 81) (pc := 70) g dL_law_70 (by decide) ?_
          refine j_istore (L' := [(10, .int (16 : Int32)), (9, .int r45), (7, .long r39.1), (0, .ref (xB aa)), (1, .ref (ad 0)), (2, .ref os), (3, .int v3), (4, .int v4), (5, .int v5), (6, .int v6)]) (pc := 81) g dL_law_81 (Nat.le_of_ble_eq_true rfl) rfl ?_
          refine j_sub (pc := 83) g [3, 4, 5, 6, 7, 8, 9, 2, 1, 0] rfl ?_
          exact tL_law_83 hst hxl g hE ih (r39.2.1, σ.2.1 + 200, σ.2.2) v3 v4 v5 v6 r39.1 r45 (16 : Int32) hf
      · have hf := gx_if c_54 hf
        refine j_iconst (v := 0) (pc := 57) g dL_law_57 (by decide) ?_
        refine j_goto (tgt := 81) (pc := 58) g dL_law_58 (by decide) ?_
        refine j_istore (L' := [(10, .int (0 : Int32)), (9, .int r45), (7, .long r39.1), (0, .ref (xB aa)), (1, .ref (ad 0)), (2, .ref os), (3, .int v3), (4, .int v4), (5, .int v5), (6, .int v6)]) (pc := 81) g dL_law_81 (Nat.le_of_ble_eq_true rfl) rfl ?_
        refine j_sub (pc := 83) g [3, 4, 5, 6, 7, 8, 9, 2, 1, 0] rfl ?_
        exact tL_law_83 hst hxl g hE ih (r39.2.1, σ.2.1 + 200, σ.2.2) v3 v4 v5 v6 r39.1 r45 (0 : Int32) hf
