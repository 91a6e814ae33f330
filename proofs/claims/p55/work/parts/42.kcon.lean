theorem gK_X8_0_1 {D : va_G} {t : Nat → ClassId} {aa : gx_AA} {l : Launch} {R : Room} {cc : ByteArray} {nL : Nat} {J : gx_J} {ad : Nat → Nat} {rs : va_W} {k n pc : Nat} {L : List (Nat × Value)} {st : List Value} (g : gx_G D t (gx_E0 aa) l R cc RX8 nL J) {σ : CS} (hd : decode cc pc = .ok (.getfield 16, 3)) (kk : J k n (kW aa ad t σ rs) (pc + 3) L (.ref (ad 15) :: st)) : J k n (kW aa ad t σ rs) pc L (.ref (ad 0) :: st) := j_get g in_X8 0 rfl rfl 1 (by decide) q_f_X8_16 rfl rfl hd kk
theorem gK_X8_0_0 {D : va_G} {t : Nat → ClassId} {aa : gx_AA} {l : Launch} {R : Room} {cc : ByteArray} {nL : Nat} {J : gx_J} {ad : Nat → Nat} {rs : va_W} {k n pc : Nat} {L : List (Nat × Value)} {st : List Value} (g : gx_G D t (gx_E0 aa) l R cc RX8 nL J) {σ : CS} (hd : decode cc pc = .ok (.getfield 10, 3)) (kk : J k n (kW aa ad t σ rs) (pc + 3) L (.ref (ad 1) :: st)) : J k n (kW aa ad t σ rs) pc L (.ref (ad 0) :: st) := j_get g in_X8 0 rfl rfl 0 (by decide) q_f_X8_10 rfl rfl hd kk
theorem cK_X8_X2_copyFrom_5_1 {D : va_G} {t : Nat → ClassId} {aa : gx_AA} {l : Launch} {R : Room} {cc : ByteArray} {nL : Nat} {J : gx_J} {ad : Nat → Nat} {rs : va_W} {k n pc : Nat} {L : List (Nat × Value)} {rest : List Value} (g : gx_G D t (gx_E0 aa) l R cc RX8 nL J) {σ : CS} {q : (NS × NS)} {fr lo : Nat} (hC : gx_C D t (gx_E0 aa) l yX2_copyFrom cX2_copyFrom 2 none fr lo [.ref (ad 15), .ref (ad 1)] (nC (fun p => ad (p + 15)) t σ.2.1 ++ (nC (fun p => ad (p + 1)) t σ.1 ++ ([kc0 ad σ.2.2.2.2.2.2.2] ++ (nC (fun p => ad (p + 29)) t σ.2.2.1 ++ (sC aa (fun p => ad (p + 43)) t (σ.2.2.2.1, σ.2.2.2.2.1) ++ (xC (fun p => ad (p + 46)) t σ.2.2.2.2.2.1 ++ (rC (fun p => ad (p + 48)) t σ.2.2.2.2.2.2.1 ++ rs))))))) (nC (fun p => ad (p + 15)) t q.1 ++ (nC (fun p => ad (p + 1)) t q.2 ++ ([kc0 ad σ.2.2.2.2.2.2.2] ++ (nC (fun p => ad (p + 29)) t σ.2.2.1 ++ (sC aa (fun p => ad (p + 43)) t (σ.2.2.2.1, σ.2.2.2.2.1) ++ (xC (fun p => ad (p + 46)) t σ.2.2.2.2.2.1 ++ (rC (fun p => ad (p + 48)) t σ.2.2.2.2.2.2.1 ++ rs))))))) none) (hR : fr + 1 ≤ R.frames ∧ 8 + (2 + 11) + lo ≤ R.locals) (hkn : k ≤ R.cells ∧ n ≤ R.slots) (hcat : (rest.map fun v => v.category).sum ≤ 8) (hd : decode cc pc = .ok (.invokevirtual 54, 3)) (kk : J k n (kW aa ad t (q.2, (q.1, σ.2.2)) rs) (pc + 3) L (rest)) : J k n (kW aa ad t σ rs) pc L (.ref (ad 1) :: .ref (ad 15) :: rest) := j_callVv (na := 1) (As := [.ref (ad 1)]) (q0 := 15) (ci := 4) g hC q_i_X2_copyFrom q_s_X2_copyFrom rfl rfl rfl q_c_X2_copyFrom q_l_X8_54 q_n_X2 (by decide +kernel) rfl hR hkn hcat (((pb2 ([kc0 ad σ.2.2.2.2.2.2.2]) (nC (fun p => ad (p + 1)) t σ.1) (nC (fun p => ad (p + 15)) t σ.2.1) (nC (fun p => ad (p + 29)) t σ.2.2.1 ++ (sC aa (fun p => ad (p + 43)) t (σ.2.2.2.1, σ.2.2.2.2.1) ++ (xC (fun p => ad (p + 46)) t σ.2.2.2.2.2.1 ++ (rC (fun p => ad (p + 48)) t σ.2.2.2.2.2.2.1 ++ rs)))))).trans (List.Perm.append_left _ (pb1 ([kc0 ad σ.2.2.2.2.2.2.2]) (nC (fun p => ad (p + 1)) t σ.1) (nC (fun p => ad (p + 29)) t σ.2.2.1 ++ (sC aa (fun p => ad (p + 43)) t (σ.2.2.2.1, σ.2.2.2.2.1) ++ (xC (fun p => ad (p + 46)) t σ.2.2.2.2.2.1 ++ (rC (fun p => ad (p + 48)) t σ.2.2.2.2.2.2.1 ++ rs))))))) ((((pb2 ([kc0 ad σ.2.2.2.2.2.2.2]) (nC (fun p => ad (p + 1)) t q.2) (nC (fun p => ad (p + 15)) t q.1) (nC (fun p => ad (p + 29)) t σ.2.2.1 ++ (sC aa (fun p => ad (p + 43)) t (σ.2.2.2.1, σ.2.2.2.2.1) ++ (xC (fun p => ad (p + 46)) t σ.2.2.2.2.2.1 ++ (rC (fun p => ad (p + 48)) t σ.2.2.2.2.2.2.1 ++ rs)))))).trans (List.Perm.append_left _ (pb1 ([kc0 ad σ.2.2.2.2.2.2.2]) (nC (fun p => ad (p + 1)) t q.2) (nC (fun p => ad (p + 29)) t σ.2.2.1 ++ (sC aa (fun p => ad (p + 43)) t (σ.2.2.2.1, σ.2.2.2.2.1) ++ (xC (fun p => ad (p + 46)) t σ.2.2.2.2.2.1 ++ (rC (fun p => ad (p + 48)) t σ.2.2.2.2.2.2.1 ++ rs)))))))).symm hd kk rfl
theorem cK_X8_X2_enlist_1 {D : va_G} {t : Nat → ClassId} {aa : gx_AA} {l : Launch} {R : Room} {cc : ByteArray} {nL : Nat} {J : gx_J} {ad : Nat → Nat} {rs : va_W} {k n pc : Nat} {L : List (Nat × Value)} {rest : List Value} (g : gx_G D t (gx_E0 aa) l R cc RX8 nL J) {σ : CS} {x0 x1 x2 : Int32} {q : (Int32 × NS)} {fr lo : Nat} (hC : gx_C D t (gx_E0 aa) l yX2_enlist cX2_enlist 4 (some .int) fr lo [.ref (ad 1), .int x0, .int x1, .int x2] (nC (fun p => ad (p + 1)) t σ.1 ++ ([kc0 ad σ.2.2.2.2.2.2.2] ++ (nC (fun p => ad (p + 15)) t σ.2.1 ++ (nC (fun p => ad (p + 29)) t σ.2.2.1 ++ (sC aa (fun p => ad (p + 43)) t (σ.2.2.2.1, σ.2.2.2.2.1) ++ (xC (fun p => ad (p + 46)) t σ.2.2.2.2.2.1 ++ (rC (fun p => ad (p + 48)) t σ.2.2.2.2.2.2.1 ++ rs))))))) (nC (fun p => ad (p + 1)) t q.2 ++ ([kc0 ad σ.2.2.2.2.2.2.2] ++ (nC (fun p => ad (p + 15)) t σ.2.1 ++ (nC (fun p => ad (p + 29)) t σ.2.2.1 ++ (sC aa (fun p => ad (p + 43)) t (σ.2.2.2.1, σ.2.2.2.2.1) ++ (xC (fun p => ad (p + 46)) t σ.2.2.2.2.2.1 ++ (rC (fun p => ad (p + 48)) t σ.2.2.2.2.2.2.1 ++ rs))))))) (some (.int q.1))) (hR : fr + 1 ≤ R.frames ∧ 8 + (4 + 11) + lo ≤ R.locals) (hkn : k ≤ R.cells ∧ n ≤ R.slots) (hcat : (rest.map fun v => v.category).sum ≤ 8) (hd : decode cc pc = .ok (.invokevirtual 58, 3)) (kk : J k n (kW aa ad t (q.2, σ.2) rs) (pc + 3) L (.int q.1 :: rest)) : J k n (kW aa ad t σ rs) pc L (.int x2 :: .int x1 :: .int x0 :: .ref (ad 1) :: rest) := j_callVi (na := 3) (As := [.int x0, .int x1, .int x2]) (q0 := 1) (ci := 4) g hC q_i_X2_enlist q_s_X2_enlist rfl rfl rfl q_c_X2_enlist q_l_X8_58 q_n_X2 (by decide +kernel) rfl hR hkn hcat (pb1 ([kc0 ad σ.2.2.2.2.2.2.2]) (nC (fun p => ad (p + 1)) t σ.1) (nC (fun p => ad (p + 15)) t σ.2.1 ++ (nC (fun p => ad (p + 29)) t σ.2.2.1 ++ (sC aa (fun p => ad (p + 43)) t (σ.2.2.2.1, σ.2.2.2.2.1) ++ (xC (fun p => ad (p + 46)) t σ.2.2.2.2.2.1 ++ (rC (fun p => ad (p + 48)) t σ.2.2.2.2.2.2.1 ++ rs)))))) ((pb1 ([kc0 ad σ.2.2.2.2.2.2.2]) (nC (fun p => ad (p + 1)) t q.2) (nC (fun p => ad (p + 15)) t σ.2.1 ++ (nC (fun p => ad (p + 29)) t σ.2.2.1 ++ (sC aa (fun p => ad (p + 43)) t (σ.2.2.2.1, σ.2.2.2.2.1) ++ (xC (fun p => ad (p + 46)) t σ.2.2.2.2.2.1 ++ (rC (fun p => ad (p + 48)) t σ.2.2.2.2.2.2.1 ++ rs))))))).symm hd kk rfl
theorem cK_X8_X2_raiseRank_1 {D : va_G} {t : Nat → ClassId} {aa : gx_AA} {l : Launch} {R : Room} {cc : ByteArray} {nL : Nat} {J : gx_J} {ad : Nat → Nat} {rs : va_W} {k n pc : Nat} {L : List (Nat × Value)} {rest : List Value} (g : gx_G D t (gx_E0 aa) l R cc RX8 nL J) {σ : CS} {x0 : Int32} {q : (Int32 × NS)} {fr lo : Nat} (hC : gx_C D t (gx_E0 aa) l yX2_raiseRank cX2_raiseRank 3 (some .int) fr lo [.ref (ad 1), .int x0] (nC (fun p => ad (p + 1)) t σ.1 ++ ([kc0 ad σ.2.2.2.2.2.2.2] ++ (nC (fun p => ad (p + 15)) t σ.2.1 ++ (nC (fun p => ad (p + 29)) t σ.2.2.1 ++ (sC aa (fun p => ad (p + 43)) t (σ.2.2.2.1, σ.2.2.2.2.1) ++ (xC (fun p => ad (p + 46)) t σ.2.2.2.2.2.1 ++ (rC (fun p => ad (p + 48)) t σ.2.2.2.2.2.2.1 ++ rs))))))) (nC (fun p => ad (p + 1)) t q.2 ++ ([kc0 ad σ.2.2.2.2.2.2.2] ++ (nC (fun p => ad (p + 15)) t σ.2.1 ++ (nC (fun p => ad (p + 29)) t σ.2.2.1 ++ (sC aa (fun p => ad (p + 43)) t (σ.2.2.2.1, σ.2.2.2.2.1) ++ (xC (fun p => ad (p + 46)) t σ.2.2.2.2.2.1 ++ (rC (fun p => ad (p + 48)) t σ.2.2.2.2.2.2.1 ++ rs))))))) (some (.int q.1))) (hR : fr + 1 ≤ R.frames ∧ 8 + (3 + 11) + lo ≤ R.locals) (hkn : k ≤ R.cells ∧ n ≤ R.slots) (hcat : (rest.map fun v => v.category).sum ≤ 8) (hd : decode cc pc = .ok (.invokevirtual 66, 3)) (kk : J k n (kW aa ad t (q.2, σ.2) rs) (pc + 3) L (.int q.1 :: rest)) : J k n (kW aa ad t σ rs) pc L (.int x0 :: .ref (ad 1) :: rest) := j_callVi (na := 1) (As := [.int x0]) (q0 := 1) (ci := 4) g hC q_i_X2_raiseRank q_s_X2_raiseRank rfl rfl rfl q_c_X2_raiseRank q_l_X8_66 q_n_X2 (by decide +kernel) rfl hR hkn hcat (pb1 ([kc0 ad σ.2.2.2.2.2.2.2]) (nC (fun p => ad (p + 1)) t σ.1) (nC (fun p => ad (p + 15)) t σ.2.1 ++ (nC (fun p => ad (p + 29)) t σ.2.2.1 ++ (sC aa (fun p => ad (p + 43)) t (σ.2.2.2.1, σ.2.2.2.2.1) ++ (xC (fun p => ad (p + 46)) t σ.2.2.2.2.2.1 ++ (rC (fun p => ad (p + 48)) t σ.2.2.2.2.2.2.1 ++ rs)))))) ((pb1 ([kc0 ad σ.2.2.2.2.2.2.2]) (nC (fun p => ad (p + 1)) t q.2) (nC (fun p => ad (p + 15)) t σ.2.1 ++ (nC (fun p => ad (p + 29)) t σ.2.2.1 ++ (sC aa (fun p => ad (p + 43)) t (σ.2.2.2.1, σ.2.2.2.2.1) ++ (xC (fun p => ad (p + 46)) t σ.2.2.2.2.2.1 ++ (rC (fun p => ad (p + 48)) t σ.2.2.2.2.2.2.1 ++ rs))))))).symm hd kk rfl
theorem cK_X8_X2_move_1 {D : va_G} {t : Nat → ClassId} {aa : gx_AA} {l : Launch} {R : Room} {cc : ByteArray} {nL : Nat} {J : gx_J} {ad : Nat → Nat} {rs : va_W} {k n pc : Nat} {L : List (Nat × Value)} {rest : List Value} (g : gx_G D t (gx_E0 aa) l R cc RX8 nL J) {σ : CS} {x0 x1 : Int32} {q : (Int32 × NS)} {fr lo : Nat} (hC : gx_C D t (gx_E0 aa) l yX2_move cX2_move 3 (some .int) fr lo [.ref (ad 1), .int x0, .int x1] (nC (fun p => ad (p + 1)) t σ.1 ++ ([kc0 ad σ.2.2.2.2.2.2.2] ++ (nC (fun p => ad (p + 15)) t σ.2.1 ++ (nC (fun p => ad (p + 29)) t σ.2.2.1 ++ (sC aa (fun p => ad (p + 43)) t (σ.2.2.2.1, σ.2.2.2.2.1) ++ (xC (fun p => ad (p + 46)) t σ.2.2.2.2.2.1 ++ (rC (fun p => ad (p + 48)) t σ.2.2.2.2.2.2.1 ++ rs))))))) (nC (fun p => ad (p + 1)) t q.2 ++ ([kc0 ad σ.2.2.2.2.2.2.2] ++ (nC (fun p => ad (p + 15)) t σ.2.1 ++ (nC (fun p => ad (p + 29)) t σ.2.2.1 ++ (sC aa (fun p => ad (p + 43)) t (σ.2.2.2.1, σ.2.2.2.2.1) ++ (xC (fun p => ad (p + 46)) t σ.2.2.2.2.2.1 ++ (rC (fun p => ad (p + 48)) t σ.2.2.2.2.2.2.1 ++ rs))))))) (some (.int q.1))) (hR : fr + 1 ≤ R.frames ∧ 8 + (3 + 11) + lo ≤ R.locals) (hkn : k ≤ R.cells ∧ n ≤ R.slots) (hcat : (rest.map fun v => v.category).sum ≤ 8) (hd : decode cc pc = .ok (.invokevirtual 69, 3)) (kk : J k n (kW aa ad t (q.2, σ.2) rs) (pc + 3) L (.int q.1 :: rest)) : J k n (kW aa ad t σ rs) pc L (.int x1 :: .int x0 :: .ref (ad 1) :: rest) := j_callVi (na := 2) (As := [.int x0, .int x1]) (q0 := 1) (ci := 4) g hC q_i_X2_move q_s_X2_move rfl rfl rfl q_c_X2_move q_l_X8_69 q_n_X2 (by decide +kernel) rfl hR hkn hcat (pb1 ([kc0 ad σ.2.2.2.2.2.2.2]) (nC (fun p => ad (p + 1)) t σ.1) (nC (fun p => ad (p + 15)) t σ.2.1 ++ (nC (fun p => ad (p + 29)) t σ.2.2.1 ++ (sC aa (fun p => ad (p + 43)) t (σ.2.2.2.1, σ.2.2.2.2.1) ++ (xC (fun p => ad (p + 46)) t σ.2.2.2.2.2.1 ++ (rC (fun p => ad (p + 48)) t σ.2.2.2.2.2.2.1 ++ rs)))))) ((pb1 ([kc0 ad σ.2.2.2.2.2.2.2]) (nC (fun p => ad (p + 1)) t q.2) (nC (fun p => ad (p + 15)) t σ.2.1 ++ (nC (fun p => ad (p + 29)) t σ.2.2.1 ++ (sC aa (fun p => ad (p + 43)) t (σ.2.2.2.1, σ.2.2.2.2.1) ++ (xC (fun p => ad (p + 46)) t σ.2.2.2.2.2.1 ++ (rC (fun p => ad (p + 48)) t σ.2.2.2.2.2.2.1 ++ rs))))))).symm hd kk rfl
theorem cK_X8_X2_fire_1 {D : va_G} {t : Nat → ClassId} {aa : gx_AA} {l : Launch} {R : Room} {cc : ByteArray} {nL : Nat} {J : gx_J} {ad : Nat → Nat} {rs : va_W} {k n pc : Nat} {L : List (Nat × Value)} {rest : List Value} (g : gx_G D t (gx_E0 aa) l R cc RX8 nL J) {σ : CS} {x0 : Int32} {q : (Int32 × NS)} {fr lo : Nat} (hC : gx_C D t (gx_E0 aa) l yX2_fire cX2_fire 3 (some .int) fr lo [.ref (ad 1), .int x0] (nC (fun p => ad (p + 1)) t σ.1 ++ ([kc0 ad σ.2.2.2.2.2.2.2] ++ (nC (fun p => ad (p + 15)) t σ.2.1 ++ (nC (fun p => ad (p + 29)) t σ.2.2.1 ++ (sC aa (fun p => ad (p + 43)) t (σ.2.2.2.1, σ.2.2.2.2.1) ++ (xC (fun p => ad (p + 46)) t σ.2.2.2.2.2.1 ++ (rC (fun p => ad (p + 48)) t σ.2.2.2.2.2.2.1 ++ rs))))))) (nC (fun p => ad (p + 1)) t q.2 ++ ([kc0 ad σ.2.2.2.2.2.2.2] ++ (nC (fun p => ad (p + 15)) t σ.2.1 ++ (nC (fun p => ad (p + 29)) t σ.2.2.1 ++ (sC aa (fun p => ad (p + 43)) t (σ.2.2.2.1, σ.2.2.2.2.1) ++ (xC (fun p => ad (p + 46)) t σ.2.2.2.2.2.1 ++ (rC (fun p => ad (p + 48)) t σ.2.2.2.2.2.2.1 ++ rs))))))) (some (.int q.1))) (hR : fr + 1 ≤ R.frames ∧ 8 + (3 + 11) + lo ≤ R.locals) (hkn : k ≤ R.cells ∧ n ≤ R.slots) (hcat : (rest.map fun v => v.category).sum ≤ 8) (hd : decode cc pc = .ok (.invokevirtual 73, 3)) (kk : J k n (kW aa ad t (q.2, σ.2) rs) (pc + 3) L (.int q.1 :: rest)) : J k n (kW aa ad t σ rs) pc L (.int x0 :: .ref (ad 1) :: rest) := j_callVi (na := 1) (As := [.int x0]) (q0 := 1) (ci := 4) g hC q_i_X2_fire q_s_X2_fire rfl rfl rfl q_c_X2_fire q_l_X8_73 q_n_X2 (by decide +kernel) rfl hR hkn hcat (pb1 ([kc0 ad σ.2.2.2.2.2.2.2]) (nC (fun p => ad (p + 1)) t σ.1) (nC (fun p => ad (p + 15)) t σ.2.1 ++ (nC (fun p => ad (p + 29)) t σ.2.2.1 ++ (sC aa (fun p => ad (p + 43)) t (σ.2.2.2.1, σ.2.2.2.2.1) ++ (xC (fun p => ad (p + 46)) t σ.2.2.2.2.2.1 ++ (rC (fun p => ad (p + 48)) t σ.2.2.2.2.2.2.1 ++ rs)))))) ((pb1 ([kc0 ad σ.2.2.2.2.2.2.2]) (nC (fun p => ad (p + 1)) t q.2) (nC (fun p => ad (p + 15)) t σ.2.1 ++ (nC (fun p => ad (p + 29)) t σ.2.2.1 ++ (sC aa (fun p => ad (p + 43)) t (σ.2.2.2.1, σ.2.2.2.2.1) ++ (xC (fun p => ad (p + 46)) t σ.2.2.2.2.2.1 ++ (rC (fun p => ad (p + 48)) t σ.2.2.2.2.2.2.1 ++ rs))))))).symm hd kk rfl
theorem cK_X8_X2_giveOrder_1 {D : va_G} {t : Nat → ClassId} {aa : gx_AA} {l : Launch} {R : Room} {cc : ByteArray} {nL : Nat} {J : gx_J} {ad : Nat → Nat} {rs : va_W} {k n pc : Nat} {L : List (Nat × Value)} {rest : List Value} (g : gx_G D t (gx_E0 aa) l R cc RX8 nL J) {σ : CS} {x0 x1 x2 : Int32} {q : (Int32 × NS)} {fr lo : Nat} (hC : gx_C D t (gx_E0 aa) l yX2_giveOrder cX2_giveOrder 4 (some .int) fr lo [.ref (ad 1), .int x0, .int x1, .int x2] (nC (fun p => ad (p + 1)) t σ.1 ++ ([kc0 ad σ.2.2.2.2.2.2.2] ++ (nC (fun p => ad (p + 15)) t σ.2.1 ++ (nC (fun p => ad (p + 29)) t σ.2.2.1 ++ (sC aa (fun p => ad (p + 43)) t (σ.2.2.2.1, σ.2.2.2.2.1) ++ (xC (fun p => ad (p + 46)) t σ.2.2.2.2.2.1 ++ (rC (fun p => ad (p + 48)) t σ.2.2.2.2.2.2.1 ++ rs))))))) (nC (fun p => ad (p + 1)) t q.2 ++ ([kc0 ad σ.2.2.2.2.2.2.2] ++ (nC (fun p => ad (p + 15)) t σ.2.1 ++ (nC (fun p => ad (p + 29)) t σ.2.2.1 ++ (sC aa (fun p => ad (p + 43)) t (σ.2.2.2.1, σ.2.2.2.2.1) ++ (xC (fun p => ad (p + 46)) t σ.2.2.2.2.2.1 ++ (rC (fun p => ad (p + 48)) t σ.2.2.2.2.2.2.1 ++ rs))))))) (some (.int q.1))) (hR : fr + 1 ≤ R.frames ∧ 8 + (4 + 11) + lo ≤ R.locals) (hkn : k ≤ R.cells ∧ n ≤ R.slots) (hcat : (rest.map fun v => v.category).sum ≤ 8) (hd : decode cc pc = .ok (.invokevirtual 76, 3)) (kk : J k n (kW aa ad t (q.2, σ.2) rs) (pc + 3) L (.int q.1 :: rest)) : J k n (kW aa ad t σ rs) pc L (.int x2 :: .int x1 :: .int x0 :: .ref (ad 1) :: rest) := j_callVi (na := 3) (As := [.int x0, .int x1, .int x2]) (q0 := 1) (ci := 4) g hC q_i_X2_giveOrder q_s_X2_giveOrder rfl rfl rfl q_c_X2_giveOrder q_l_X8_76 q_n_X2 (by decide +kernel) rfl hR hkn hcat (pb1 ([kc0 ad σ.2.2.2.2.2.2.2]) (nC (fun p => ad (p + 1)) t σ.1) (nC (fun p => ad (p + 15)) t σ.2.1 ++ (nC (fun p => ad (p + 29)) t σ.2.2.1 ++ (sC aa (fun p => ad (p + 43)) t (σ.2.2.2.1, σ.2.2.2.2.1) ++ (xC (fun p => ad (p + 46)) t σ.2.2.2.2.2.1 ++ (rC (fun p => ad (p + 48)) t σ.2.2.2.2.2.2.1 ++ rs)))))) ((pb1 ([kc0 ad σ.2.2.2.2.2.2.2]) (nC (fun p => ad (p + 1)) t q.2) (nC (fun p => ad (p + 15)) t σ.2.1 ++ (nC (fun p => ad (p + 29)) t σ.2.2.1 ++ (sC aa (fun p => ad (p + 43)) t (σ.2.2.2.1, σ.2.2.2.2.1) ++ (xC (fun p => ad (p + 46)) t σ.2.2.2.2.2.1 ++ (rC (fun p => ad (p + 48)) t σ.2.2.2.2.2.2.1 ++ rs))))))).symm hd kk rfl
theorem cK_X8_X2_letHoursPass_1 {D : va_G} {t : Nat → ClassId} {aa : gx_AA} {l : Launch} {R : Room} {cc : ByteArray} {nL : Nat} {J : gx_J} {ad : Nat → Nat} {rs : va_W} {k n pc : Nat} {L : List (Nat × Value)} {rest : List Value} (g : gx_G D t (gx_E0 aa) l R cc RX8 nL J) {σ : CS} {x0 : Int32} {q : (Int32 × NS)} {fr lo : Nat} (hC : gx_C D t (gx_E0 aa) l yX2_letHoursPass cX2_letHoursPass 5 (some .int) fr lo [.ref (ad 1), .int x0] (nC (fun p => ad (p + 1)) t σ.1 ++ ([kc0 ad σ.2.2.2.2.2.2.2] ++ (nC (fun p => ad (p + 15)) t σ.2.1 ++ (nC (fun p => ad (p + 29)) t σ.2.2.1 ++ (sC aa (fun p => ad (p + 43)) t (σ.2.2.2.1, σ.2.2.2.2.1) ++ (xC (fun p => ad (p + 46)) t σ.2.2.2.2.2.1 ++ (rC (fun p => ad (p + 48)) t σ.2.2.2.2.2.2.1 ++ rs))))))) (nC (fun p => ad (p + 1)) t q.2 ++ ([kc0 ad σ.2.2.2.2.2.2.2] ++ (nC (fun p => ad (p + 15)) t σ.2.1 ++ (nC (fun p => ad (p + 29)) t σ.2.2.1 ++ (sC aa (fun p => ad (p + 43)) t (σ.2.2.2.1, σ.2.2.2.2.1) ++ (xC (fun p => ad (p + 46)) t σ.2.2.2.2.2.1 ++ (rC (fun p => ad (p + 48)) t σ.2.2.2.2.2.2.1 ++ rs))))))) (some (.int q.1))) (hR : fr + 1 ≤ R.frames ∧ 8 + (5 + 11) + lo ≤ R.locals) (hkn : k ≤ R.cells ∧ n ≤ R.slots) (hcat : (rest.map fun v => v.category).sum ≤ 8) (hd : decode cc pc = .ok (.invokevirtual 79, 3)) (kk : J k n (kW aa ad t (q.2, σ.2) rs) (pc + 3) L (.int q.1 :: rest)) : J k n (kW aa ad t σ rs) pc L (.int x0 :: .ref (ad 1) :: rest) := j_callVi (na := 1) (As := [.int x0]) (q0 := 1) (ci := 4) g hC q_i_X2_letHoursPass q_s_X2_letHoursPass rfl rfl rfl q_c_X2_letHoursPass q_l_X8_79 q_n_X2 (by decide +kernel) rfl hR hkn hcat (pb1 ([kc0 ad σ.2.2.2.2.2.2.2]) (nC (fun p => ad (p + 1)) t σ.1) (nC (fun p => ad (p + 15)) t σ.2.1 ++ (nC (fun p => ad (p + 29)) t σ.2.2.1 ++ (sC aa (fun p => ad (p + 43)) t (σ.2.2.2.1, σ.2.2.2.2.1) ++ (xC (fun p => ad (p + 46)) t σ.2.2.2.2.2.1 ++ (rC (fun p => ad (p + 48)) t σ.2.2.2.2.2.2.1 ++ rs)))))) ((pb1 ([kc0 ad σ.2.2.2.2.2.2.2]) (nC (fun p => ad (p + 1)) t q.2) (nC (fun p => ad (p + 15)) t σ.2.1 ++ (nC (fun p => ad (p + 29)) t σ.2.2.1 ++ (sC aa (fun p => ad (p + 43)) t (σ.2.2.2.1, σ.2.2.2.2.1) ++ (xC (fun p => ad (p + 46)) t σ.2.2.2.2.2.1 ++ (rC (fun p => ad (p + 48)) t σ.2.2.2.2.2.2.1 ++ rs))))))).symm hd kk rfl
theorem gK_X8_1_2 {D : va_G} {t : Nat → ClassId} {aa : gx_AA} {l : Launch} {R : Room} {cc : ByteArray} {nL : Nat} {J : gx_J} {ad : Nat → Nat} {rs : va_W} {k n pc : Nat} {L : List (Nat × Value)} {st : List Value} (g : gx_G D t (gx_E0 aa) l R cc RX8 nL J) {σ : CS} (hd : decode cc pc = .ok (.getfield 82, 3)) (kk : J k n (kW aa ad t σ rs) (pc + 3) L (.ref (ad 12) :: st)) : J k n (kW aa ad t σ rs) pc L (.ref (ad 1) :: st) := j_get g in_X2 1 rfl rfl 2 (by decide) q_f_X8_82 rfl rfl hd kk
theorem cK_X8_X0_assign_4 {D : va_G} {t : Nat → ClassId} {aa : gx_AA} {l : Launch} {R : Room} {cc : ByteArray} {nL : Nat} {J : gx_J} {ad : Nat → Nat} {rs : va_W} {k n pc : Nat} {L : List (Nat × Value)} {rest : List Value} (g : gx_G D t (gx_E0 aa) l R cc RX8 nL J) {σ : CS} {x0 x1 x2 : Int32} {q : (Int32 × OS)} {fr lo : Nat} (hC : gx_C D t (gx_E0 aa) l yX0_assign cX0_assign 5 (some .int) fr lo [.ref (ad 12), .int x0, .int x1, .int x2] (bC (fun p => ad (p + 12)) t σ.1.2.2.2 ++ (((ad (0 + 1), .inr (4, [.ref (ad (1 + 1)), .ref (ad (7 + 1)), .ref (ad (11 + 1)), .int (os_f σ.1.1 3), .int (os_f σ.1.1 4), .int (os_f σ.1.1 5), .int (os_f σ.1.1 6)])) :: (oC (fun p => ad (p + 2)) t σ.1.2.1 ++ dC (fun p => ad (p + 8)) t σ.1.2.2.1)) ++ ([kc0 ad σ.2.2.2.2.2.2.2] ++ (nC (fun p => ad (p + 15)) t σ.2.1 ++ (nC (fun p => ad (p + 29)) t σ.2.2.1 ++ (sC aa (fun p => ad (p + 43)) t (σ.2.2.2.1, σ.2.2.2.2.1) ++ (xC (fun p => ad (p + 46)) t σ.2.2.2.2.2.1 ++ (rC (fun p => ad (p + 48)) t σ.2.2.2.2.2.2.1 ++ rs)))))))) (bC (fun p => ad (p + 12)) t q.2 ++ (((ad (0 + 1), .inr (4, [.ref (ad (1 + 1)), .ref (ad (7 + 1)), .ref (ad (11 + 1)), .int (os_f σ.1.1 3), .int (os_f σ.1.1 4), .int (os_f σ.1.1 5), .int (os_f σ.1.1 6)])) :: (oC (fun p => ad (p + 2)) t σ.1.2.1 ++ dC (fun p => ad (p + 8)) t σ.1.2.2.1)) ++ ([kc0 ad σ.2.2.2.2.2.2.2] ++ (nC (fun p => ad (p + 15)) t σ.2.1 ++ (nC (fun p => ad (p + 29)) t σ.2.2.1 ++ (sC aa (fun p => ad (p + 43)) t (σ.2.2.2.1, σ.2.2.2.2.1) ++ (xC (fun p => ad (p + 46)) t σ.2.2.2.2.2.1 ++ (rC (fun p => ad (p + 48)) t σ.2.2.2.2.2.2.1 ++ rs)))))))) (some (.int q.1))) (hR : fr + 1 ≤ R.frames ∧ 8 + (5 + 11) + lo ≤ R.locals) (hkn : k ≤ R.cells ∧ n ≤ R.slots) (hcat : (rest.map fun v => v.category).sum ≤ 8) (hd : decode cc pc = .ok (.invokevirtual 86, 3)) (kk : J k n (kW aa ad t ((σ.1.1, (σ.1.2.1, (σ.1.2.2.1, q.2))), σ.2) rs) (pc + 3) L (.int q.1 :: rest)) : J k n (kW aa ad t σ rs) pc L (.int x2 :: .int x1 :: .int x0 :: .ref (ad 12) :: rest) := j_callVi (na := 3) (As := [.int x0, .int x1, .int x2]) (q0 := 12) (ci := 2) g hC q_i_X0_assign q_s_X0_assign rfl rfl rfl q_c_X0_assign q_l_X8_86 q_n_X0 (by decide +kernel) rfl hR hkn hcat (((pb1 ([kc0 ad σ.2.2.2.2.2.2.2]) (nC (fun p => ad (p + 1)) t σ.1) (nC (fun p => ad (p + 15)) t σ.2.1 ++ (nC (fun p => ad (p + 29)) t σ.2.2.1 ++ (sC aa (fun p => ad (p + 43)) t (σ.2.2.2.1, σ.2.2.2.2.1) ++ (xC (fun p => ad (p + 46)) t σ.2.2.2.2.2.1 ++ (rC (fun p => ad (p + 48)) t σ.2.2.2.2.2.2.1 ++ rs))))))).trans (pm_n3 (fun p => ad (p + 1)) t σ.1 ([kc0 ad σ.2.2.2.2.2.2.2] ++ (nC (fun p => ad (p + 15)) t σ.2.1 ++ (nC (fun p => ad (p + 29)) t σ.2.2.1 ++ (sC aa (fun p => ad (p + 43)) t (σ.2.2.2.1, σ.2.2.2.2.1) ++ (xC (fun p => ad (p + 46)) t σ.2.2.2.2.2.1 ++ (rC (fun p => ad (p + 48)) t σ.2.2.2.2.2.2.1 ++ rs)))))))) ((((pb1 ([kc0 ad σ.2.2.2.2.2.2.2]) (nC (fun p => ad (p + 1)) t (σ.1.1, (σ.1.2.1, (σ.1.2.2.1, q.2)))) (nC (fun p => ad (p + 15)) t σ.2.1 ++ (nC (fun p => ad (p + 29)) t σ.2.2.1 ++ (sC aa (fun p => ad (p + 43)) t (σ.2.2.2.1, σ.2.2.2.2.1) ++ (xC (fun p => ad (p + 46)) t σ.2.2.2.2.2.1 ++ (rC (fun p => ad (p + 48)) t σ.2.2.2.2.2.2.1 ++ rs))))))).trans (pm_n3 (fun p => ad (p + 1)) t (σ.1.1, (σ.1.2.1, (σ.1.2.2.1, q.2))) ([kc0 ad σ.2.2.2.2.2.2.2] ++ (nC (fun p => ad (p + 15)) t σ.2.1 ++ (nC (fun p => ad (p + 29)) t σ.2.2.1 ++ (sC aa (fun p => ad (p + 43)) t (σ.2.2.2.1, σ.2.2.2.2.1) ++ (xC (fun p => ad (p + 46)) t σ.2.2.2.2.2.1 ++ (rC (fun p => ad (p + 48)) t σ.2.2.2.2.2.2.1 ++ rs))))))))).symm hd kk rfl
theorem cK_X8_X0_remove_4 {D : va_G} {t : Nat → ClassId} {aa : gx_AA} {l : Launch} {R : Room} {cc : ByteArray} {nL : Nat} {J : gx_J} {ad : Nat → Nat} {rs : va_W} {k n pc : Nat} {L : List (Nat × Value)} {rest : List Value} (g : gx_G D t (gx_E0 aa) l R cc RX8 nL J) {σ : CS} {x0 x1 : Int32} {q : (Int32 × OS)} {fr lo : Nat} (hC : gx_C D t (gx_E0 aa) l yX0_remove cX0_remove 5 (some .int) fr lo [.ref (ad 12), .int x0, .int x1] (bC (fun p => ad (p + 12)) t σ.1.2.2.2 ++ (((ad (0 + 1), .inr (4, [.ref (ad (1 + 1)), .ref (ad (7 + 1)), .ref (ad (11 + 1)), .int (os_f σ.1.1 3), .int (os_f σ.1.1 4), .int (os_f σ.1.1 5), .int (os_f σ.1.1 6)])) :: (oC (fun p => ad (p + 2)) t σ.1.2.1 ++ dC (fun p => ad (p + 8)) t σ.1.2.2.1)) ++ ([kc0 ad σ.2.2.2.2.2.2.2] ++ (nC (fun p => ad (p + 15)) t σ.2.1 ++ (nC (fun p => ad (p + 29)) t σ.2.2.1 ++ (sC aa (fun p => ad (p + 43)) t (σ.2.2.2.1, σ.2.2.2.2.1) ++ (xC (fun p => ad (p + 46)) t σ.2.2.2.2.2.1 ++ (rC (fun p => ad (p + 48)) t σ.2.2.2.2.2.2.1 ++ rs)))))))) (bC (fun p => ad (p + 12)) t q.2 ++ (((ad (0 + 1), .inr (4, [.ref (ad (1 + 1)), .ref (ad (7 + 1)), .ref (ad (11 + 1)), .int (os_f σ.1.1 3), .int (os_f σ.1.1 4), .int (os_f σ.1.1 5), .int (os_f σ.1.1 6)])) :: (oC (fun p => ad (p + 2)) t σ.1.2.1 ++ dC (fun p => ad (p + 8)) t σ.1.2.2.1)) ++ ([kc0 ad σ.2.2.2.2.2.2.2] ++ (nC (fun p => ad (p + 15)) t σ.2.1 ++ (nC (fun p => ad (p + 29)) t σ.2.2.1 ++ (sC aa (fun p => ad (p + 43)) t (σ.2.2.2.1, σ.2.2.2.2.1) ++ (xC (fun p => ad (p + 46)) t σ.2.2.2.2.2.1 ++ (rC (fun p => ad (p + 48)) t σ.2.2.2.2.2.2.1 ++ rs)))))))) (some (.int q.1))) (hR : fr + 1 ≤ R.frames ∧ 8 + (5 + 11) + lo ≤ R.locals) (hkn : k ≤ R.cells ∧ n ≤ R.slots) (hcat : (rest.map fun v => v.category).sum ≤ 8) (hd : decode cc pc = .ok (.invokevirtual 91, 3)) (kk : J k n (kW aa ad t ((σ.1.1, (σ.1.2.1, (σ.1.2.2.1, q.2))), σ.2) rs) (pc + 3) L (.int q.1 :: rest)) : J k n (kW aa ad t σ rs) pc L (.int x1 :: .int x0 :: .ref (ad 12) :: rest) := j_callVi (na := 2) (As := [.int x0, .int x1]) (q0 := 12) (ci := 2) g hC q_i_X0_remove q_s_X0_remove rfl rfl rfl q_c_X0_remove q_l_X8_91 q_n_X0 (by decide +kernel) rfl hR hkn hcat (((pb1 ([kc0 ad σ.2.2.2.2.2.2.2]) (nC (fun p => ad (p + 1)) t σ.1) (nC (fun p => ad (p + 15)) t σ.2.1 ++ (nC (fun p => ad (p + 29)) t σ.2.2.1 ++ (sC aa (fun p => ad (p + 43)) t (σ.2.2.2.1, σ.2.2.2.2.1) ++ (xC (fun p => ad (p + 46)) t σ.2.2.2.2.2.1 ++ (rC (fun p => ad (p + 48)) t σ.2.2.2.2.2.2.1 ++ rs))))))).trans (pm_n3 (fun p => ad (p + 1)) t σ.1 ([kc0 ad σ.2.2.2.2.2.2.2] ++ (nC (fun p => ad (p + 15)) t σ.2.1 ++ (nC (fun p => ad (p + 29)) t σ.2.2.1 ++ (sC aa (fun p => ad (p + 43)) t (σ.2.2.2.1, σ.2.2.2.2.1) ++ (xC (fun p => ad (p + 46)) t σ.2.2.2.2.2.1 ++ (rC (fun p => ad (p + 48)) t σ.2.2.2.2.2.2.1 ++ rs)))))))) ((((pb1 ([kc0 ad σ.2.2.2.2.2.2.2]) (nC (fun p => ad (p + 1)) t (σ.1.1, (σ.1.2.1, (σ.1.2.2.1, q.2)))) (nC (fun p => ad (p + 15)) t σ.2.1 ++ (nC (fun p => ad (p + 29)) t σ.2.2.1 ++ (sC aa (fun p => ad (p + 43)) t (σ.2.2.2.1, σ.2.2.2.2.1) ++ (xC (fun p => ad (p + 46)) t σ.2.2.2.2.2.1 ++ (rC (fun p => ad (p + 48)) t σ.2.2.2.2.2.2.1 ++ rs))))))).trans (pm_n3 (fun p => ad (p + 1)) t (σ.1.1, (σ.1.2.1, (σ.1.2.2.1, q.2))) ([kc0 ad σ.2.2.2.2.2.2.2] ++ (nC (fun p => ad (p + 15)) t σ.2.1 ++ (nC (fun p => ad (p + 29)) t σ.2.2.1 ++ (sC aa (fun p => ad (p + 43)) t (σ.2.2.2.1, σ.2.2.2.2.1) ++ (xC (fun p => ad (p + 46)) t σ.2.2.2.2.2.1 ++ (rC (fun p => ad (p + 48)) t σ.2.2.2.2.2.2.1 ++ rs))))))))).symm hd kk rfl
theorem gK_X8_1_3 {D : va_G} {t : Nat → ClassId} {aa : gx_AA} {l : Launch} {R : Room} {cc : ByteArray} {nL : Nat} {J : gx_J} {ad : Nat → Nat} {rs : va_W} {k n pc : Nat} {L : List (Nat × Value)} {st : List Value} (g : gx_G D t (gx_E0 aa) l R cc RX8 nL J) {σ : CS} (hd : decode cc pc = .ok (.getfield 94, 3)) (kk : J k n (kW aa ad t σ rs) (pc + 3) L (.int (os_f σ.1.1 3) :: st)) : J k n (kW aa ad t σ rs) pc L (.ref (ad 1) :: st) := j_get g in_X2 1 rfl rfl 3 (by decide) q_f_X8_94 rfl rfl hd kk
set_option maxRecDepth 100000 in
set_option maxHeartbeats 4000000 in
theorem cX8_hour_ {D : va_G} {t : Nat → ClassId} {aa : gx_AA} {l : Launch} {ad : Nat → Nat} {rs : va_W} {σ : CS} {q : Int32} (hf : fX8_hour σ = some q) : gx_C D t (gx_E0 aa) l yX8_hour cX8_hour 1 (some .int) 0 0 [.ref (ad 0)] (kW aa ad t σ rs) (kW aa ad t σ rs) (some (.int q)) := by
  refine gx_intro_i (by decide) (Nat.le_of_ble_eq_true rfl) (fun J g hE0 => ?_)
  have hE : ∀ (v : Int32) (pc : Nat) (L : List (Nat × Value)), some v = some q → decode cX8_hour pc = .ok (.ireturn, 1) → narrow .int (.int v) = .int v → J 0 0 (kW aa ad t σ rs) pc L [.int v] := fun v pc L h h1 h2 => by cases h; exact hE0 pc L h1 h2
  unfold fX8_hour at hf
  show J 0 0 (kW aa ad t σ rs) 0 [(0, .ref (ad 0))] []
  refine j_aload_n (pc := 0) g 0 dX8_hour_0 rfl ?_
  refine gK_X8_0_0 (σ := σ) (pc := 1) g dX8_hour_1 ?_
  refine gK_X8_1_3 (σ := σ) (pc := 4) g dX8_hour_4 ?_
  exact hE _ _ _ hf dX8_hour_7 rfl
theorem gK_X8_1_0 {D : va_G} {t : Nat → ClassId} {aa : gx_AA} {l : Launch} {R : Room} {cc : ByteArray} {nL : Nat} {J : gx_J} {ad : Nat → Nat} {rs : va_W} {k n pc : Nat} {L : List (Nat × Value)} {st : List Value} (g : gx_G D t (gx_E0 aa) l R cc RX8 nL J) {σ : CS} (hd : decode cc pc = .ok (.getfield 97, 3)) (kk : J k n (kW aa ad t σ rs) (pc + 3) L (.ref (ad 2) :: st)) : J k n (kW aa ad t σ rs) pc L (.ref (ad 1) :: st) := j_get g in_X2 1 rfl rfl 0 (by decide) q_f_X8_97 rfl rfl hd kk
theorem cK_X8_X3_countServing_2 {D : va_G} {t : Nat → ClassId} {aa : gx_AA} {l : Launch} {R : Room} {cc : ByteArray} {nL : Nat} {J : gx_J} {ad : Nat → Nat} {rs : va_W} {k n pc : Nat} {L : List (Nat × Value)} {rest : List Value} (g : gx_G D t (gx_E0 aa) l R cc RX8 nL J) {σ : CS} {q : Int32} {fr lo : Nat} (hC : gx_C D t (gx_E0 aa) l yX3_countServing cX3_countServing 3 (some .int) fr lo [.ref (ad 2)] (oC (fun p => ad (p + 2)) t σ.1.2.1 ++ (((ad (0 + 1), .inr (4, [.ref (ad (1 + 1)), .ref (ad (7 + 1)), .ref (ad (11 + 1)), .int (os_f σ.1.1 3), .int (os_f σ.1.1 4), .int (os_f σ.1.1 5), .int (os_f σ.1.1 6)])) :: (dC (fun p => ad (p + 8)) t σ.1.2.2.1 ++ bC (fun p => ad (p + 12)) t σ.1.2.2.2)) ++ ([kc0 ad σ.2.2.2.2.2.2.2] ++ (nC (fun p => ad (p + 15)) t σ.2.1 ++ (nC (fun p => ad (p + 29)) t σ.2.2.1 ++ (sC aa (fun p => ad (p + 43)) t (σ.2.2.2.1, σ.2.2.2.2.1) ++ (xC (fun p => ad (p + 46)) t σ.2.2.2.2.2.1 ++ (rC (fun p => ad (p + 48)) t σ.2.2.2.2.2.2.1 ++ rs)))))))) (oC (fun p => ad (p + 2)) t σ.1.2.1 ++ (((ad (0 + 1), .inr (4, [.ref (ad (1 + 1)), .ref (ad (7 + 1)), .ref (ad (11 + 1)), .int (os_f σ.1.1 3), .int (os_f σ.1.1 4), .int (os_f σ.1.1 5), .int (os_f σ.1.1 6)])) :: (dC (fun p => ad (p + 8)) t σ.1.2.2.1 ++ bC (fun p => ad (p + 12)) t σ.1.2.2.2)) ++ ([kc0 ad σ.2.2.2.2.2.2.2] ++ (nC (fun p => ad (p + 15)) t σ.2.1 ++ (nC (fun p => ad (p + 29)) t σ.2.2.1 ++ (sC aa (fun p => ad (p + 43)) t (σ.2.2.2.1, σ.2.2.2.2.1) ++ (xC (fun p => ad (p + 46)) t σ.2.2.2.2.2.1 ++ (rC (fun p => ad (p + 48)) t σ.2.2.2.2.2.2.1 ++ rs)))))))) (some (.int q))) (hR : fr + 1 ≤ R.frames ∧ 8 + (3 + 11) + lo ≤ R.locals) (hkn : k ≤ R.cells ∧ n ≤ R.slots) (hcat : (rest.map fun v => v.category).sum ≤ 8) (hd : decode cc pc = .ok (.invokevirtual 101, 3)) (kk : J k n (kW aa ad t σ rs) (pc + 3) L (.int q :: rest)) : J k n (kW aa ad t σ rs) pc L (.ref (ad 2) :: rest) := j_callVi (na := 0) (As := []) (q0 := 2) (ci := 5) g hC q_i_X3_countServing q_s_X3_countServing rfl rfl rfl q_c_X3_countServing q_l_X8_101 q_n_X3 (by decide +kernel) rfl hR hkn hcat (((pb1 ([kc0 ad σ.2.2.2.2.2.2.2]) (nC (fun p => ad (p + 1)) t σ.1) (nC (fun p => ad (p + 15)) t σ.2.1 ++ (nC (fun p => ad (p + 29)) t σ.2.2.1 ++ (sC aa (fun p => ad (p + 43)) t (σ.2.2.2.1, σ.2.2.2.2.1) ++ (xC (fun p => ad (p + 46)) t σ.2.2.2.2.2.1 ++ (rC (fun p => ad (p + 48)) t σ.2.2.2.2.2.2.1 ++ rs))))))).trans (pm_n1 (fun p => ad (p + 1)) t σ.1 ([kc0 ad σ.2.2.2.2.2.2.2] ++ (nC (fun p => ad (p + 15)) t σ.2.1 ++ (nC (fun p => ad (p + 29)) t σ.2.2.1 ++ (sC aa (fun p => ad (p + 43)) t (σ.2.2.2.1, σ.2.2.2.2.1) ++ (xC (fun p => ad (p + 46)) t σ.2.2.2.2.2.1 ++ (rC (fun p => ad (p + 48)) t σ.2.2.2.2.2.2.1 ++ rs)))))))) ((((pb1 ([kc0 ad σ.2.2.2.2.2.2.2]) (nC (fun p => ad (p + 1)) t σ.1) (nC (fun p => ad (p + 15)) t σ.2.1 ++ (nC (fun p => ad (p + 29)) t σ.2.2.1 ++ (sC aa (fun p => ad (p + 43)) t (σ.2.2.2.1, σ.2.2.2.2.1) ++ (xC (fun p => ad (p + 46)) t σ.2.2.2.2.2.1 ++ (rC (fun p => ad (p + 48)) t σ.2.2.2.2.2.2.1 ++ rs))))))).trans (pm_n1 (fun p => ad (p + 1)) t σ.1 ([kc0 ad σ.2.2.2.2.2.2.2] ++ (nC (fun p => ad (p + 15)) t σ.2.1 ++ (nC (fun p => ad (p + 29)) t σ.2.2.1 ++ (sC aa (fun p => ad (p + 43)) t (σ.2.2.2.1, σ.2.2.2.2.1) ++ (xC (fun p => ad (p + 46)) t σ.2.2.2.2.2.1 ++ (rC (fun p => ad (p + 48)) t σ.2.2.2.2.2.2.1 ++ rs))))))))).symm hd kk rfl
set_option maxRecDepth 100000 in
set_option maxHeartbeats 4000000 in
theorem cX8_officerCount_ {D : va_G} {t : Nat → ClassId} {aa : gx_AA} {l : Launch} {ad : Nat → Nat} {rs : va_W} {σ : CS} {q : Int32} (hf : fX8_officerCount σ = some q) : gx_C D t (gx_E0 aa) l yX8_officerCount cX8_officerCount 1 (some .int) 1 22 [.ref (ad 0)] (kW aa ad t σ rs) (kW aa ad t σ rs) (some (.int q)) := by
  refine gx_intro_i (by decide) (Nat.le_of_ble_eq_true rfl) (fun J g hE0 => ?_)
  have hE : ∀ (v : Int32) (pc : Nat) (L : List (Nat × Value)), some v = some q → decode cX8_officerCount pc = .ok (.ireturn, 1) → narrow .int (.int v) = .int v → J 0 0 (kW aa ad t σ rs) pc L [.int v] := fun v pc L h h1 h2 => by cases h; exact hE0 pc L h1 h2
  unfold fX8_officerCount at hf
  show J 0 0 (kW aa ad t σ rs) 0 [(0, .ref (ad 0))] []
  refine j_aload_n (pc := 0) g 0 dX8_officerCount_0 rfl ?_
  refine gK_X8_0_0 (σ := σ) (pc := 1) g dX8_officerCount_1 ?_
  refine gK_X8_1_0 (σ := σ) (pc := 4) g dX8_officerCount_4 ?_
  obtain ⟨r7, h_7, hf⟩ := gx_bs hf
  refine cK_X8_X3_countServing_2 (σ := σ) (pc := 7) g (cX3_countServing_ (ad := (fun p => ad (p + 2))) h_7) ⟨Nat.le_of_ble_eq_true rfl, Nat.le_of_ble_eq_true rfl⟩ ⟨Nat.zero_le _, Nat.zero_le _⟩ (Nat.le_of_ble_eq_true rfl) dX8_officerCount_7 ?_
  exact hE _ _ _ hf dX8_officerCount_10 rfl
theorem gK_X8_2_5 {D : va_G} {t : Nat → ClassId} {aa : gx_AA} {l : Launch} {R : Room} {cc : ByteArray} {nL : Nat} {J : gx_J} {ad : Nat → Nat} {rs : va_W} {k n pc : Nat} {L : List (Nat × Value)} {st : List Value} (g : gx_G D t (gx_E0 aa) l R cc RX8 nL J) {σ : CS} (hd : decode cc pc = .ok (.getfield 107, 3)) (kk : J k n (kW aa ad t σ rs) (pc + 3) L (.int (os_f σ.1.2.1 5) :: st)) : J k n (kW aa ad t σ rs) pc L (.ref (ad 2) :: st) := j_get g in_X3 2 rfl rfl 5 (by decide) q_f_X8_107 rfl rfl hd kk
set_option maxRecDepth 100000 in
set_option maxHeartbeats 4000000 in
theorem cX8_appointedCount_ {D : va_G} {t : Nat → ClassId} {aa : gx_AA} {l : Launch} {ad : Nat → Nat} {rs : va_W} {σ : CS} {q : Int32} (hf : fX8_appointedCount σ = some q) : gx_C D t (gx_E0 aa) l yX8_appointedCount cX8_appointedCount 1 (some .int) 0 0 [.ref (ad 0)] (kW aa ad t σ rs) (kW aa ad t σ rs) (some (.int q)) := by
  refine gx_intro_i (by decide) (Nat.le_of_ble_eq_true rfl) (fun J g hE0 => ?_)
  have hE : ∀ (v : Int32) (pc : Nat) (L : List (Nat × Value)), some v = some q → decode cX8_appointedCount pc = .ok (.ireturn, 1) → narrow .int (.int v) = .int v → J 0 0 (kW aa ad t σ rs) pc L [.int v] := fun v pc L h h1 h2 => by cases h; exact hE0 pc L h1 h2
  unfold fX8_appointedCount at hf
  show J 0 0 (kW aa ad t σ rs) 0 [(0, .ref (ad 0))] []
  refine j_aload_n (pc := 0) g 0 dX8_appointedCount_0 rfl ?_
  refine gK_X8_0_0 (σ := σ) (pc := 1) g dX8_appointedCount_1 ?_
  refine gK_X8_1_0 (σ := σ) (pc := 4) g dX8_appointedCount_4 ?_
  refine gK_X8_2_5 (σ := σ) (pc := 7) g dX8_appointedCount_7 ?_
  exact hE _ _ _ hf dX8_appointedCount_10 rfl
theorem cK_X8_X3_serves_2 {D : va_G} {t : Nat → ClassId} {aa : gx_AA} {l : Launch} {R : Room} {cc : ByteArray} {nL : Nat} {J : gx_J} {ad : Nat → Nat} {rs : va_W} {k n pc : Nat} {L : List (Nat × Value)} {rest : List Value} (g : gx_G D t (gx_E0 aa) l R cc RX8 nL J) {σ : CS} {x0 : Int32} {q : Int32} {fr lo : Nat} (hC : gx_C D t (gx_E0 aa) l yX3_serves cX3_serves 2 (some .boolean) fr lo [.ref (ad 2), .int x0] (oC (fun p => ad (p + 2)) t σ.1.2.1 ++ (((ad (0 + 1), .inr (4, [.ref (ad (1 + 1)), .ref (ad (7 + 1)), .ref (ad (11 + 1)), .int (os_f σ.1.1 3), .int (os_f σ.1.1 4), .int (os_f σ.1.1 5), .int (os_f σ.1.1 6)])) :: (dC (fun p => ad (p + 8)) t σ.1.2.2.1 ++ bC (fun p => ad (p + 12)) t σ.1.2.2.2)) ++ ([kc0 ad σ.2.2.2.2.2.2.2] ++ (nC (fun p => ad (p + 15)) t σ.2.1 ++ (nC (fun p => ad (p + 29)) t σ.2.2.1 ++ (sC aa (fun p => ad (p + 43)) t (σ.2.2.2.1, σ.2.2.2.2.1) ++ (xC (fun p => ad (p + 46)) t σ.2.2.2.2.2.1 ++ (rC (fun p => ad (p + 48)) t σ.2.2.2.2.2.2.1 ++ rs)))))))) (oC (fun p => ad (p + 2)) t σ.1.2.1 ++ (((ad (0 + 1), .inr (4, [.ref (ad (1 + 1)), .ref (ad (7 + 1)), .ref (ad (11 + 1)), .int (os_f σ.1.1 3), .int (os_f σ.1.1 4), .int (os_f σ.1.1 5), .int (os_f σ.1.1 6)])) :: (dC (fun p => ad (p + 8)) t σ.1.2.2.1 ++ bC (fun p => ad (p + 12)) t σ.1.2.2.2)) ++ ([kc0 ad σ.2.2.2.2.2.2.2] ++ (nC (fun p => ad (p + 15)) t σ.2.1 ++ (nC (fun p => ad (p + 29)) t σ.2.2.1 ++ (sC aa (fun p => ad (p + 43)) t (σ.2.2.2.1, σ.2.2.2.2.1) ++ (xC (fun p => ad (p + 46)) t σ.2.2.2.2.2.1 ++ (rC (fun p => ad (p + 48)) t σ.2.2.2.2.2.2.1 ++ rs)))))))) (some (.int q))) (hR : fr + 1 ≤ R.frames ∧ 8 + (2 + 11) + lo ≤ R.locals) (hkn : k ≤ R.cells ∧ n ≤ R.slots) (hcat : (rest.map fun v => v.category).sum ≤ 8) (hd : decode cc pc = .ok (.invokevirtual 110, 3)) (kk : J k n (kW aa ad t σ rs) (pc + 3) L (.int q :: rest)) : J k n (kW aa ad t σ rs) pc L (.int x0 :: .ref (ad 2) :: rest) := j_callVi (na := 1) (As := [.int x0]) (q0 := 2) (ci := 5) g hC q_i_X3_serves q_s_X3_serves rfl rfl rfl q_c_X3_serves q_l_X8_110 q_n_X3 (by decide +kernel) rfl hR hkn hcat (((pb1 ([kc0 ad σ.2.2.2.2.2.2.2]) (nC (fun p => ad (p + 1)) t σ.1) (nC (fun p => ad (p + 15)) t σ.2.1 ++ (nC (fun p => ad (p + 29)) t σ.2.2.1 ++ (sC aa (fun p => ad (p + 43)) t (σ.2.2.2.1, σ.2.2.2.2.1) ++ (xC (fun p => ad (p + 46)) t σ.2.2.2.2.2.1 ++ (rC (fun p => ad (p + 48)) t σ.2.2.2.2.2.2.1 ++ rs))))))).trans (pm_n1 (fun p => ad (p + 1)) t σ.1 ([kc0 ad σ.2.2.2.2.2.2.2] ++ (nC (fun p => ad (p + 15)) t σ.2.1 ++ (nC (fun p => ad (p + 29)) t σ.2.2.1 ++ (sC aa (fun p => ad (p + 43)) t (σ.2.2.2.1, σ.2.2.2.2.1) ++ (xC (fun p => ad (p + 46)) t σ.2.2.2.2.2.1 ++ (rC (fun p => ad (p + 48)) t σ.2.2.2.2.2.2.1 ++ rs)))))))) ((((pb1 ([kc0 ad σ.2.2.2.2.2.2.2]) (nC (fun p => ad (p + 1)) t σ.1) (nC (fun p => ad (p + 15)) t σ.2.1 ++ (nC (fun p => ad (p + 29)) t σ.2.2.1 ++ (sC aa (fun p => ad (p + 43)) t (σ.2.2.2.1, σ.2.2.2.2.1) ++ (xC (fun p => ad (p + 46)) t σ.2.2.2.2.2.1 ++ (rC (fun p => ad (p + 48)) t σ.2.2.2.2.2.2.1 ++ rs))))))).trans (pm_n1 (fun p => ad (p + 1)) t σ.1 ([kc0 ad σ.2.2.2.2.2.2.2] ++ (nC (fun p => ad (p + 15)) t σ.2.1 ++ (nC (fun p => ad (p + 29)) t σ.2.2.1 ++ (sC aa (fun p => ad (p + 43)) t (σ.2.2.2.1, σ.2.2.2.2.1) ++ (xC (fun p => ad (p + 46)) t σ.2.2.2.2.2.1 ++ (rC (fun p => ad (p + 48)) t σ.2.2.2.2.2.2.1 ++ rs))))))))).symm hd kk rfl
set_option maxRecDepth 100000 in
set_option maxHeartbeats 4000000 in
theorem cX8_isInNavy_ {D : va_G} {t : Nat → ClassId} {aa : gx_AA} {l : Launch} {ad : Nat → Nat} {rs : va_W} {σ : CS} {p1 : Int32} {q : Int32} (hf : fX8_isInNavy σ p1 = some q) : gx_C D t (gx_E0 aa) l yX8_isInNavy cX8_isInNavy 2 (some .boolean) 1 21 [.ref (ad 0), .int p1] (kW aa ad t σ rs) (kW aa ad t σ rs) (some (.int q)) := by
  refine gx_intro_i (by decide) (Nat.le_of_ble_eq_true rfl) (fun J g hE0 => ?_)
  have hE : ∀ (v : Int32) (pc : Nat) (L : List (Nat × Value)), some v = some q → decode cX8_isInNavy pc = .ok (.ireturn, 1) → narrow .boolean (.int v) = .int v → J 0 0 (kW aa ad t σ rs) pc L [.int v] := fun v pc L h h1 h2 => by cases h; exact hE0 pc L h1 h2
  unfold fX8_isInNavy at hf
  show J 0 0 (kW aa ad t σ rs) 0 [(0, .ref (ad 0)), (1, .int p1)] []
  refine j_aload_n (pc := 0) g 0 dX8_isInNavy_0 rfl ?_
  refine gK_X8_0_0 (σ := σ) (pc := 1) g dX8_isInNavy_1 ?_
  refine gK_X8_1_0 (σ := σ) (pc := 4) g dX8_isInNavy_4 ?_
  refine j_iload_n (pc := 7) g 1 dX8_isInNavy_7 rfl ?_
  obtain ⟨r8, h_8, hf⟩ := gx_bs hf
  refine cK_X8_X3_serves_2 (σ := σ) (pc := 8) g (cX3_serves_ (ad := (fun p => ad (p + 2))) h_8) ⟨Nat.le_of_ble_eq_true rfl, Nat.le_of_ble_eq_true rfl⟩ ⟨Nat.zero_le _, Nat.zero_le _⟩ (Nat.le_of_ble_eq_true rfl) dX8_isInNavy_8 ?_
  obtain ⟨h_r, hf⟩ := gx_ck hf
  exact hE _ _ _ hf dX8_isInNavy_11 (gx_narZ h_r)
theorem cK_X8_X3_deepest_2 {D : va_G} {t : Nat → ClassId} {aa : gx_AA} {l : Launch} {R : Room} {cc : ByteArray} {nL : Nat} {J : gx_J} {ad : Nat → Nat} {rs : va_W} {k n pc : Nat} {L : List (Nat × Value)} {rest : List Value} (g : gx_G D t (gx_E0 aa) l R cc RX8 nL J) {σ : CS} {q : Int32} {fr lo : Nat} (hC : gx_C D t (gx_E0 aa) l yX3_deepest cX3_deepest 3 (some .int) fr lo [.ref (ad 2)] (oC (fun p => ad (p + 2)) t σ.1.2.1 ++ (((ad (0 + 1), .inr (4, [.ref (ad (1 + 1)), .ref (ad (7 + 1)), .ref (ad (11 + 1)), .int (os_f σ.1.1 3), .int (os_f σ.1.1 4), .int (os_f σ.1.1 5), .int (os_f σ.1.1 6)])) :: (dC (fun p => ad (p + 8)) t σ.1.2.2.1 ++ bC (fun p => ad (p + 12)) t σ.1.2.2.2)) ++ ([kc0 ad σ.2.2.2.2.2.2.2] ++ (nC (fun p => ad (p + 15)) t σ.2.1 ++ (nC (fun p => ad (p + 29)) t σ.2.2.1 ++ (sC aa (fun p => ad (p + 43)) t (σ.2.2.2.1, σ.2.2.2.2.1) ++ (xC (fun p => ad (p + 46)) t σ.2.2.2.2.2.1 ++ (rC (fun p => ad (p + 48)) t σ.2.2.2.2.2.2.1 ++ rs)))))))) (oC (fun p => ad (p + 2)) t σ.1.2.1 ++ (((ad (0 + 1), .inr (4, [.ref (ad (1 + 1)), .ref (ad (7 + 1)), .ref (ad (11 + 1)), .int (os_f σ.1.1 3), .int (os_f σ.1.1 4), .int (os_f σ.1.1 5), .int (os_f σ.1.1 6)])) :: (dC (fun p => ad (p + 8)) t σ.1.2.2.1 ++ bC (fun p => ad (p + 12)) t σ.1.2.2.2)) ++ ([kc0 ad σ.2.2.2.2.2.2.2] ++ (nC (fun p => ad (p + 15)) t σ.2.1 ++ (nC (fun p => ad (p + 29)) t σ.2.2.1 ++ (sC aa (fun p => ad (p + 43)) t (σ.2.2.2.1, σ.2.2.2.2.1) ++ (xC (fun p => ad (p + 46)) t σ.2.2.2.2.2.1 ++ (rC (fun p => ad (p + 48)) t σ.2.2.2.2.2.2.1 ++ rs)))))))) (some (.int q))) (hR : fr + 1 ≤ R.frames ∧ 8 + (3 + 11) + lo ≤ R.locals) (hkn : k ≤ R.cells ∧ n ≤ R.slots) (hcat : (rest.map fun v => v.category).sum ≤ 8) (hd : decode cc pc = .ok (.invokevirtual 162, 3)) (kk : J k n (kW aa ad t σ rs) (pc + 3) L (.int q :: rest)) : J k n (kW aa ad t σ rs) pc L (.ref (ad 2) :: rest) := j_callVi (na := 0) (As := []) (q0 := 2) (ci := 5) g hC q_i_X3_deepest q_s_X3_deepest rfl rfl rfl q_c_X3_deepest q_l_X8_162 q_n_X3 (by decide +kernel) rfl hR hkn hcat (((pb1 ([kc0 ad σ.2.2.2.2.2.2.2]) (nC (fun p => ad (p + 1)) t σ.1) (nC (fun p => ad (p + 15)) t σ.2.1 ++ (nC (fun p => ad (p + 29)) t σ.2.2.1 ++ (sC aa (fun p => ad (p + 43)) t (σ.2.2.2.1, σ.2.2.2.2.1) ++ (xC (fun p => ad (p + 46)) t σ.2.2.2.2.2.1 ++ (rC (fun p => ad (p + 48)) t σ.2.2.2.2.2.2.1 ++ rs))))))).trans (pm_n1 (fun p => ad (p + 1)) t σ.1 ([kc0 ad σ.2.2.2.2.2.2.2] ++ (nC (fun p => ad (p + 15)) t σ.2.1 ++ (nC (fun p => ad (p + 29)) t σ.2.2.1 ++ (sC aa (fun p => ad (p + 43)) t (σ.2.2.2.1, σ.2.2.2.2.1) ++ (xC (fun p => ad (p + 46)) t σ.2.2.2.2.2.1 ++ (rC (fun p => ad (p + 48)) t σ.2.2.2.2.2.2.1 ++ rs)))))))) ((((pb1 ([kc0 ad σ.2.2.2.2.2.2.2]) (nC (fun p => ad (p + 1)) t σ.1) (nC (fun p => ad (p + 15)) t σ.2.1 ++ (nC (fun p => ad (p + 29)) t σ.2.2.1 ++ (sC aa (fun p => ad (p + 43)) t (σ.2.2.2.1, σ.2.2.2.2.1) ++ (xC (fun p => ad (p + 46)) t σ.2.2.2.2.2.1 ++ (rC (fun p => ad (p + 48)) t σ.2.2.2.2.2.2.1 ++ rs))))))).trans (pm_n1 (fun p => ad (p + 1)) t σ.1 ([kc0 ad σ.2.2.2.2.2.2.2] ++ (nC (fun p => ad (p + 15)) t σ.2.1 ++ (nC (fun p => ad (p + 29)) t σ.2.2.1 ++ (sC aa (fun p => ad (p + 43)) t (σ.2.2.2.1, σ.2.2.2.2.1) ++ (xC (fun p => ad (p + 46)) t σ.2.2.2.2.2.1 ++ (rC (fun p => ad (p + 48)) t σ.2.2.2.2.2.2.1 ++ rs))))))))).symm hd kk rfl
set_option maxRecDepth 100000 in
set_option maxHeartbeats 4000000 in
theorem cX8_greatestDepth_ {D : va_G} {t : Nat → ClassId} {aa : gx_AA} {l : Launch} {ad : Nat → Nat} {rs : va_W} {σ : CS} {q : Int32} (hf : fX8_greatestDepth σ = some q) : gx_C D t (gx_E0 aa) l yX8_greatestDepth cX8_greatestDepth 1 (some .int) 2 45 [.ref (ad 0)] (kW aa ad t σ rs) (kW aa ad t σ rs) (some (.int q)) := by
  refine gx_intro_i (by decide) (Nat.le_of_ble_eq_true rfl) (fun J g hE0 => ?_)
  have hE : ∀ (v : Int32) (pc : Nat) (L : List (Nat × Value)), some v = some q → decode cX8_greatestDepth pc = .ok (.ireturn, 1) → narrow .int (.int v) = .int v → J 0 0 (kW aa ad t σ rs) pc L [.int v] := fun v pc L h h1 h2 => by cases h; exact hE0 pc L h1 h2
  unfold fX8_greatestDepth at hf
  show J 0 0 (kW aa ad t σ rs) 0 [(0, .ref (ad 0))] []
  refine j_aload_n (pc := 0) g 0 dX8_greatestDepth_0 rfl ?_
  refine gK_X8_0_0 (σ := σ) (pc := 1) g dX8_greatestDepth_1 ?_
  refine gK_X8_1_0 (σ := σ) (pc := 4) g dX8_greatestDepth_4 ?_
  obtain ⟨r7, h_7, hf⟩ := gx_bs hf
  refine cK_X8_X3_deepest_2 (σ := σ) (pc := 7) g (cX3_deepest_ (ad := (fun p => ad (p + 2))) h_7) ⟨Nat.le_of_ble_eq_true rfl, Nat.le_of_ble_eq_true rfl⟩ ⟨Nat.zero_le _, Nat.zero_le _⟩ (Nat.le_of_ble_eq_true rfl) dX8_greatestDepth_7 ?_
  exact hE _ _ _ hf dX8_greatestDepth_10 rfl
theorem gK_X8_1_1 {D : va_G} {t : Nat → ClassId} {aa : gx_AA} {l : Launch} {R : Room} {cc : ByteArray} {nL : Nat} {J : gx_J} {ad : Nat → Nat} {rs : va_W} {k n pc : Nat} {L : List (Nat × Value)} {st : List Value} (g : gx_G D t (gx_E0 aa) l R cc RX8 nL J) {σ : CS} (hd : decode cc pc = .ok (.getfield 182, 3)) (kk : J k n (kW aa ad t σ rs) (pc + 3) L (.ref (ad 8) :: st)) : J k n (kW aa ad t σ rs) pc L (.ref (ad 1) :: st) := j_get g in_X2 1 rfl rfl 1 (by decide) q_f_X8_182 rfl rfl hd kk
theorem gK_X8_3_3 {D : va_G} {t : Nat → ClassId} {aa : gx_AA} {l : Launch} {R : Room} {cc : ByteArray} {nL : Nat} {J : gx_J} {ad : Nat → Nat} {rs : va_W} {k n pc : Nat} {L : List (Nat × Value)} {st : List Value} (g : gx_G D t (gx_E0 aa) l R cc RX8 nL J) {σ : CS} (hd : decode cc pc = .ok (.getfield 186, 3)) (kk : J k n (kW aa ad t σ rs) (pc + 3) L (.int (os_f σ.1.2.2.1 3) :: st)) : J k n (kW aa ad t σ rs) pc L (.ref (ad 8) :: st) := j_get g in_X4 8 rfl rfl 3 (by decide) q_f_X8_186 rfl rfl hd kk
set_option maxRecDepth 100000 in
set_option maxHeartbeats 4000000 in
theorem cX8_orderCount_ {D : va_G} {t : Nat → ClassId} {aa : gx_AA} {l : Launch} {ad : Nat → Nat} {rs : va_W} {σ : CS} {q : Int32} (hf : fX8_orderCount σ = some q) : gx_C D t (gx_E0 aa) l yX8_orderCount cX8_orderCount 1 (some .int) 0 0 [.ref (ad 0)] (kW aa ad t σ rs) (kW aa ad t σ rs) (some (.int q)) := by
  refine gx_intro_i (by decide) (Nat.le_of_ble_eq_true rfl) (fun J g hE0 => ?_)
  have hE : ∀ (v : Int32) (pc : Nat) (L : List (Nat × Value)), some v = some q → decode cX8_orderCount pc = .ok (.ireturn, 1) → narrow .int (.int v) = .int v → J 0 0 (kW aa ad t σ rs) pc L [.int v] := fun v pc L h h1 h2 => by cases h; exact hE0 pc L h1 h2
  unfold fX8_orderCount at hf
  show J 0 0 (kW aa ad t σ rs) 0 [(0, .ref (ad 0))] []
  refine j_aload_n (pc := 0) g 0 dX8_orderCount_0 rfl ?_
  refine gK_X8_0_0 (σ := σ) (pc := 1) g dX8_orderCount_1 ?_
  refine gK_X8_1_1 (σ := σ) (pc := 4) g dX8_orderCount_4 ?_
  refine gK_X8_3_3 (σ := σ) (pc := 7) g dX8_orderCount_7 ?_
  exact hE _ _ _ hf dX8_orderCount_10 rfl
theorem gK_X8_1_4 {D : va_G} {t : Nat → ClassId} {aa : gx_AA} {l : Launch} {R : Room} {cc : ByteArray} {nL : Nat} {J : gx_J} {ad : Nat → Nat} {rs : va_W} {k n pc : Nat} {L : List (Nat × Value)} {st : List Value} (g : gx_G D t (gx_E0 aa) l R cc RX8 nL J) {σ : CS} (hd : decode cc pc = .ok (.getfield 203, 3)) (kk : J k n (kW aa ad t σ rs) (pc + 3) L (.int (os_f σ.1.1 4) :: st)) : J k n (kW aa ad t σ rs) pc L (.ref (ad 1) :: st) := j_get g in_X2 1 rfl rfl 4 (by decide) q_f_X8_203 rfl rfl hd kk
set_option maxRecDepth 100000 in
set_option maxHeartbeats 4000000 in
theorem cX8_executedOrders_ {D : va_G} {t : Nat → ClassId} {aa : gx_AA} {l : Launch} {ad : Nat → Nat} {rs : va_W} {σ : CS} {q : Int32} (hf : fX8_executedOrders σ = some q) : gx_C D t (gx_E0 aa) l yX8_executedOrders cX8_executedOrders 1 (some .int) 0 0 [.ref (ad 0)] (kW aa ad t σ rs) (kW aa ad t σ rs) (some (.int q)) := by
  refine gx_intro_i (by decide) (Nat.le_of_ble_eq_true rfl) (fun J g hE0 => ?_)
  have hE : ∀ (v : Int32) (pc : Nat) (L : List (Nat × Value)), some v = some q → decode cX8_executedOrders pc = .ok (.ireturn, 1) → narrow .int (.int v) = .int v → J 0 0 (kW aa ad t σ rs) pc L [.int v] := fun v pc L h h1 h2 => by cases h; exact hE0 pc L h1 h2
  unfold fX8_executedOrders at hf
  show J 0 0 (kW aa ad t σ rs) 0 [(0, .ref (ad 0))] []
  refine j_aload_n (pc := 0) g 0 dX8_executedOrders_0 rfl ?_
  refine gK_X8_0_0 (σ := σ) (pc := 1) g dX8_executedOrders_1 ?_
  refine gK_X8_1_4 (σ := σ) (pc := 4) g dX8_executedOrders_4 ?_
  exact hE _ _ _ hf dX8_executedOrders_7 rfl
theorem gK_X8_1_5 {D : va_G} {t : Nat → ClassId} {aa : gx_AA} {l : Launch} {R : Room} {cc : ByteArray} {nL : Nat} {J : gx_J} {ad : Nat → Nat} {rs : va_W} {k n pc : Nat} {L : List (Nat × Value)} {st : List Value} (g : gx_G D t (gx_E0 aa) l R cc RX8 nL J) {σ : CS} (hd : decode cc pc = .ok (.getfield 206, 3)) (kk : J k n (kW aa ad t σ rs) (pc + 3) L (.int (os_f σ.1.1 5) :: st)) : J k n (kW aa ad t σ rs) pc L (.ref (ad 1) :: st) := j_get g in_X2 1 rfl rfl 5 (by decide) q_f_X8_206 rfl rfl hd kk
set_option maxRecDepth 100000 in
set_option maxHeartbeats 4000000 in
theorem cX8_refusedOrders_ {D : va_G} {t : Nat → ClassId} {aa : gx_AA} {l : Launch} {ad : Nat → Nat} {rs : va_W} {σ : CS} {q : Int32} (hf : fX8_refusedOrders σ = some q) : gx_C D t (gx_E0 aa) l yX8_refusedOrders cX8_refusedOrders 1 (some .int) 0 0 [.ref (ad 0)] (kW aa ad t σ rs) (kW aa ad t σ rs) (some (.int q)) := by
  refine gx_intro_i (by decide) (Nat.le_of_ble_eq_true rfl) (fun J g hE0 => ?_)
  have hE : ∀ (v : Int32) (pc : Nat) (L : List (Nat × Value)), some v = some q → decode cX8_refusedOrders pc = .ok (.ireturn, 1) → narrow .int (.int v) = .int v → J 0 0 (kW aa ad t σ rs) pc L [.int v] := fun v pc L h h1 h2 => by cases h; exact hE0 pc L h1 h2
  unfold fX8_refusedOrders at hf
  show J 0 0 (kW aa ad t σ rs) 0 [(0, .ref (ad 0))] []
  refine j_aload_n (pc := 0) g 0 dX8_refusedOrders_0 rfl ?_
  refine gK_X8_0_0 (σ := σ) (pc := 1) g dX8_refusedOrders_1 ?_
  refine gK_X8_1_5 (σ := σ) (pc := 4) g dX8_refusedOrders_4 ?_
  exact hE _ _ _ hf dX8_refusedOrders_7 rfl
theorem gK_X8_1_6 {D : va_G} {t : Nat → ClassId} {aa : gx_AA} {l : Launch} {R : Room} {cc : ByteArray} {nL : Nat} {J : gx_J} {ad : Nat → Nat} {rs : va_W} {k n pc : Nat} {L : List (Nat × Value)} {st : List Value} (g : gx_G D t (gx_E0 aa) l R cc RX8 nL J) {σ : CS} (hd : decode cc pc = .ok (.getfield 209, 3)) (kk : J k n (kW aa ad t σ rs) (pc + 3) L (.int (os_f σ.1.1 6) :: st)) : J k n (kW aa ad t σ rs) pc L (.ref (ad 1) :: st) := j_get g in_X2 1 rfl rfl 6 (by decide) q_f_X8_209 rfl rfl hd kk
set_option maxRecDepth 100000 in
set_option maxHeartbeats 4000000 in
theorem cX8_lostOrders_ {D : va_G} {t : Nat → ClassId} {aa : gx_AA} {l : Launch} {ad : Nat → Nat} {rs : va_W} {σ : CS} {q : Int32} (hf : fX8_lostOrders σ = some q) : gx_C D t (gx_E0 aa) l yX8_lostOrders cX8_lostOrders 1 (some .int) 0 0 [.ref (ad 0)] (kW aa ad t σ rs) (kW aa ad t σ rs) (some (.int q)) := by
  refine gx_intro_i (by decide) (Nat.le_of_ble_eq_true rfl) (fun J g hE0 => ?_)
  have hE : ∀ (v : Int32) (pc : Nat) (L : List (Nat × Value)), some v = some q → decode cX8_lostOrders pc = .ok (.ireturn, 1) → narrow .int (.int v) = .int v → J 0 0 (kW aa ad t σ rs) pc L [.int v] := fun v pc L h h1 h2 => by cases h; exact hE0 pc L h1 h2
  unfold fX8_lostOrders at hf
  show J 0 0 (kW aa ad t σ rs) 0 [(0, .ref (ad 0))] []
  refine j_aload_n (pc := 0) g 0 dX8_lostOrders_0 rfl ?_
  refine gK_X8_0_0 (σ := σ) (pc := 1) g dX8_lostOrders_1 ?_
  refine gK_X8_1_6 (σ := σ) (pc := 4) g dX8_lostOrders_4 ?_
  exact hE _ _ _ hf dX8_lostOrders_7 rfl
theorem gK_X8_4_2 {D : va_G} {t : Nat → ClassId} {aa : gx_AA} {l : Launch} {R : Room} {cc : ByteArray} {nL : Nat} {J : gx_J} {ad : Nat → Nat} {rs : va_W} {k n pc : Nat} {L : List (Nat × Value)} {st : List Value} (g : gx_G D t (gx_E0 aa) l R cc RX8 nL J) {σ : CS} (hd : decode cc pc = .ok (.getfield 212, 3)) (kk : J k n (kW aa ad t σ rs) (pc + 3) L (.int (os_f σ.1.2.2.2 2) :: st)) : J k n (kW aa ad t σ rs) pc L (.ref (ad 12) :: st) := j_get g in_X0 12 rfl rfl 2 (by decide) q_f_X8_212 rfl rfl hd kk
set_option maxRecDepth 100000 in
set_option maxHeartbeats 4000000 in
theorem cX8_flagCount_ {D : va_G} {t : Nat → ClassId} {aa : gx_AA} {l : Launch} {ad : Nat → Nat} {rs : va_W} {σ : CS} {q : Int32} (hf : fX8_flagCount σ = some q) : gx_C D t (gx_E0 aa) l yX8_flagCount cX8_flagCount 1 (some .int) 0 0 [.ref (ad 0)] (kW aa ad t σ rs) (kW aa ad t σ rs) (some (.int q)) := by
  refine gx_intro_i (by decide) (Nat.le_of_ble_eq_true rfl) (fun J g hE0 => ?_)
  have hE : ∀ (v : Int32) (pc : Nat) (L : List (Nat × Value)), some v = some q → decode cX8_flagCount pc = .ok (.ireturn, 1) → narrow .int (.int v) = .int v → J 0 0 (kW aa ad t σ rs) pc L [.int v] := fun v pc L h h1 h2 => by cases h; exact hE0 pc L h1 h2
  unfold fX8_flagCount at hf
  show J 0 0 (kW aa ad t σ rs) 0 [(0, .ref (ad 0))] []
  refine j_aload_n (pc := 0) g 0 dX8_flagCount_0 rfl ?_
  refine gK_X8_0_0 (σ := σ) (pc := 1) g dX8_flagCount_1 ?_
  refine gK_X8_1_2 (σ := σ) (pc := 4) g dX8_flagCount_4 ?_
  refine gK_X8_4_2 (σ := σ) (pc := 7) g dX8_flagCount_7 ?_
  exact hE _ _ _ hf dX8_flagCount_10 rfl
theorem cK_X8_X0_lookUp_4 {D : va_G} {t : Nat → ClassId} {aa : gx_AA} {l : Launch} {R : Room} {cc : ByteArray} {nL : Nat} {J : gx_J} {ad : Nat → Nat} {rs : va_W} {k n pc : Nat} {L : List (Nat × Value)} {rest : List Value} (g : gx_G D t (gx_E0 aa) l R cc RX8 nL J) {σ : CS} {x0 x1 : Int32} {q : Int32} {fr lo : Nat} (hC : gx_C D t (gx_E0 aa) l yX0_lookUp cX0_lookUp 4 (some .int) fr lo [.ref (ad 12), .int x0, .int x1] (bC (fun p => ad (p + 12)) t σ.1.2.2.2 ++ (((ad (0 + 1), .inr (4, [.ref (ad (1 + 1)), .ref (ad (7 + 1)), .ref (ad (11 + 1)), .int (os_f σ.1.1 3), .int (os_f σ.1.1 4), .int (os_f σ.1.1 5), .int (os_f σ.1.1 6)])) :: (oC (fun p => ad (p + 2)) t σ.1.2.1 ++ dC (fun p => ad (p + 8)) t σ.1.2.2.1)) ++ ([kc0 ad σ.2.2.2.2.2.2.2] ++ (nC (fun p => ad (p + 15)) t σ.2.1 ++ (nC (fun p => ad (p + 29)) t σ.2.2.1 ++ (sC aa (fun p => ad (p + 43)) t (σ.2.2.2.1, σ.2.2.2.2.1) ++ (xC (fun p => ad (p + 46)) t σ.2.2.2.2.2.1 ++ (rC (fun p => ad (p + 48)) t σ.2.2.2.2.2.2.1 ++ rs)))))))) (bC (fun p => ad (p + 12)) t σ.1.2.2.2 ++ (((ad (0 + 1), .inr (4, [.ref (ad (1 + 1)), .ref (ad (7 + 1)), .ref (ad (11 + 1)), .int (os_f σ.1.1 3), .int (os_f σ.1.1 4), .int (os_f σ.1.1 5), .int (os_f σ.1.1 6)])) :: (oC (fun p => ad (p + 2)) t σ.1.2.1 ++ dC (fun p => ad (p + 8)) t σ.1.2.2.1)) ++ ([kc0 ad σ.2.2.2.2.2.2.2] ++ (nC (fun p => ad (p + 15)) t σ.2.1 ++ (nC (fun p => ad (p + 29)) t σ.2.2.1 ++ (sC aa (fun p => ad (p + 43)) t (σ.2.2.2.1, σ.2.2.2.2.1) ++ (xC (fun p => ad (p + 46)) t σ.2.2.2.2.2.1 ++ (rC (fun p => ad (p + 48)) t σ.2.2.2.2.2.2.1 ++ rs)))))))) (some (.int q))) (hR : fr + 1 ≤ R.frames ∧ 8 + (4 + 11) + lo ≤ R.locals) (hkn : k ≤ R.cells ∧ n ≤ R.slots) (hcat : (rest.map fun v => v.category).sum ≤ 8) (hd : decode cc pc = .ok (.invokevirtual 213, 3)) (kk : J k n (kW aa ad t σ rs) (pc + 3) L (.int q :: rest)) : J k n (kW aa ad t σ rs) pc L (.int x1 :: .int x0 :: .ref (ad 12) :: rest) := j_callVi (na := 2) (As := [.int x0, .int x1]) (q0 := 12) (ci := 2) g hC q_i_X0_lookUp q_s_X0_lookUp rfl rfl rfl q_c_X0_lookUp q_l_X8_213 q_n_X0 (by decide +kernel) rfl hR hkn hcat (((pb1 ([kc0 ad σ.2.2.2.2.2.2.2]) (nC (fun p => ad (p + 1)) t σ.1) (nC (fun p => ad (p + 15)) t σ.2.1 ++ (nC (fun p => ad (p + 29)) t σ.2.2.1 ++ (sC aa (fun p => ad (p + 43)) t (σ.2.2.2.1, σ.2.2.2.2.1) ++ (xC (fun p => ad (p + 46)) t σ.2.2.2.2.2.1 ++ (rC (fun p => ad (p + 48)) t σ.2.2.2.2.2.2.1 ++ rs))))))).trans (pm_n3 (fun p => ad (p + 1)) t σ.1 ([kc0 ad σ.2.2.2.2.2.2.2] ++ (nC (fun p => ad (p + 15)) t σ.2.1 ++ (nC (fun p => ad (p + 29)) t σ.2.2.1 ++ (sC aa (fun p => ad (p + 43)) t (σ.2.2.2.1, σ.2.2.2.2.1) ++ (xC (fun p => ad (p + 46)) t σ.2.2.2.2.2.1 ++ (rC (fun p => ad (p + 48)) t σ.2.2.2.2.2.2.1 ++ rs)))))))) ((((pb1 ([kc0 ad σ.2.2.2.2.2.2.2]) (nC (fun p => ad (p + 1)) t σ.1) (nC (fun p => ad (p + 15)) t σ.2.1 ++ (nC (fun p => ad (p + 29)) t σ.2.2.1 ++ (sC aa (fun p => ad (p + 43)) t (σ.2.2.2.1, σ.2.2.2.2.1) ++ (xC (fun p => ad (p + 46)) t σ.2.2.2.2.2.1 ++ (rC (fun p => ad (p + 48)) t σ.2.2.2.2.2.2.1 ++ rs))))))).trans (pm_n3 (fun p => ad (p + 1)) t σ.1 ([kc0 ad σ.2.2.2.2.2.2.2] ++ (nC (fun p => ad (p + 15)) t σ.2.1 ++ (nC (fun p => ad (p + 29)) t σ.2.2.1 ++ (sC aa (fun p => ad (p + 43)) t (σ.2.2.2.1, σ.2.2.2.2.1) ++ (xC (fun p => ad (p + 46)) t σ.2.2.2.2.2.1 ++ (rC (fun p => ad (p + 48)) t σ.2.2.2.2.2.2.1 ++ rs))))))))).symm hd kk rfl
set_option maxRecDepth 100000 in
set_option maxHeartbeats 4000000 in
theorem cX8_meaning_ {D : va_G} {t : Nat → ClassId} {aa : gx_AA} {l : Launch} {ad : Nat → Nat} {rs : va_W} {σ : CS} {p1 : Int32} {p2 : Int32} {q : Int32} (hf : fX8_meaning σ p1 p2 = some q) : gx_C D t (gx_E0 aa) l yX8_meaning cX8_meaning 4 (some .int) 3 67 [.ref (ad 0), .int p1, .int p2] (kW aa ad t σ rs) (kW aa ad t σ rs) (some (.int q)) := by
  refine gx_intro_i (by decide) (Nat.le_of_ble_eq_true rfl) (fun J g hE0 => ?_)
  have hE : ∀ (v : Int32) (pc : Nat) (L : List (Nat × Value)), some v = some q → decode cX8_meaning pc = .ok (.ireturn, 1) → narrow .int (.int v) = .int v → J 0 0 (kW aa ad t σ rs) pc L [.int v] := fun v pc L h h1 h2 => by cases h; exact hE0 pc L h1 h2
  unfold fX8_meaning at hf
  show J 0 0 (kW aa ad t σ rs) 0 [(0, .ref (ad 0)), (1, .int p1), (2, .int p2)] []
  refine j_aload_n (pc := 0) g 0 dX8_meaning_0 rfl ?_
  refine gK_X8_0_0 (σ := σ) (pc := 1) g dX8_meaning_1 ?_
  refine gK_X8_1_2 (σ := σ) (pc := 4) g dX8_meaning_4 ?_
  refine j_iload_n (pc := 7) g 1 dX8_meaning_7 rfl ?_
  refine j_iload_n (pc := 8) g 2 dX8_meaning_8 rfl ?_
  obtain ⟨r9, h_9, hf⟩ := gx_bs hf
  refine cK_X8_X0_lookUp_4 (σ := σ) (pc := 9) g (cX0_lookUp_ (ad := (fun p => ad (p + 12))) h_9) ⟨Nat.le_of_ble_eq_true rfl, Nat.le_of_ble_eq_true rfl⟩ ⟨Nat.zero_le _, Nat.zero_le _⟩ (Nat.le_of_ble_eq_true rfl) dX8_meaning_9 ?_
  refine j_istore_n (L' := [(3, .int r9), (0, .ref (ad 0)), (1, .int p1), (2, .int p2)]) (pc := 12) g dX8_meaning_12 rfl (Nat.le_of_ble_eq_true rfl) rfl ?_
  refine j_iload_n (pc := 13) g 0 dX8_meaning_13 rfl ?_
  refine j_if_ge (tgt := 21) (pc := 14) g dX8_meaning_14 (by decide) (fun c_14 => ?_) (fun c_14 => ?_)
  · have hf := gx_it c_14 hf
    refine j_iload_n (pc := 21) g 0 dX8_meaning_21 rfl ?_
    exact hE _ _ _ hf dX8_meaning_22 rfl
  · have hf := gx_if c_14 hf
    refine j_iload_n (pc := 17) g 0 dX8_meaning_17 rfl ?_
    cases hf
theorem cK_X8_X0_countMeaning_4 {D : va_G} {t : Nat → ClassId} {aa : gx_AA} {l : Launch} {R : Room} {cc : ByteArray} {nL : Nat} {J : gx_J} {ad : Nat → Nat} {rs : va_W} {k n pc : Nat} {L : List (Nat × Value)} {rest : List Value} (g : gx_G D t (gx_E0 aa) l R cc RX8 nL J) {σ : CS} {x0 : Int32} {q : Int32} {fr lo : Nat} (hC : gx_C D t (gx_E0 aa) l yX0_countMeaning cX0_countMeaning 4 (some .int) fr lo [.ref (ad 12), .int x0] (bC (fun p => ad (p + 12)) t σ.1.2.2.2 ++ (((ad (0 + 1), .inr (4, [.ref (ad (1 + 1)), .ref (ad (7 + 1)), .ref (ad (11 + 1)), .int (os_f σ.1.1 3), .int (os_f σ.1.1 4), .int (os_f σ.1.1 5), .int (os_f σ.1.1 6)])) :: (oC (fun p => ad (p + 2)) t σ.1.2.1 ++ dC (fun p => ad (p + 8)) t σ.1.2.2.1)) ++ ([kc0 ad σ.2.2.2.2.2.2.2] ++ (nC (fun p => ad (p + 15)) t σ.2.1 ++ (nC (fun p => ad (p + 29)) t σ.2.2.1 ++ (sC aa (fun p => ad (p + 43)) t (σ.2.2.2.1, σ.2.2.2.2.1) ++ (xC (fun p => ad (p + 46)) t σ.2.2.2.2.2.1 ++ (rC (fun p => ad (p + 48)) t σ.2.2.2.2.2.2.1 ++ rs)))))))) (bC (fun p => ad (p + 12)) t σ.1.2.2.2 ++ (((ad (0 + 1), .inr (4, [.ref (ad (1 + 1)), .ref (ad (7 + 1)), .ref (ad (11 + 1)), .int (os_f σ.1.1 3), .int (os_f σ.1.1 4), .int (os_f σ.1.1 5), .int (os_f σ.1.1 6)])) :: (oC (fun p => ad (p + 2)) t σ.1.2.1 ++ dC (fun p => ad (p + 8)) t σ.1.2.2.1)) ++ ([kc0 ad σ.2.2.2.2.2.2.2] ++ (nC (fun p => ad (p + 15)) t σ.2.1 ++ (nC (fun p => ad (p + 29)) t σ.2.2.1 ++ (sC aa (fun p => ad (p + 43)) t (σ.2.2.2.1, σ.2.2.2.2.1) ++ (xC (fun p => ad (p + 46)) t σ.2.2.2.2.2.1 ++ (rC (fun p => ad (p + 48)) t σ.2.2.2.2.2.2.1 ++ rs)))))))) (some (.int q))) (hR : fr + 1 ≤ R.frames ∧ 8 + (4 + 11) + lo ≤ R.locals) (hkn : k ≤ R.cells ∧ n ≤ R.slots) (hcat : (rest.map fun v => v.category).sum ≤ 8) (hd : decode cc pc = .ok (.invokevirtual 221, 3)) (kk : J k n (kW aa ad t σ rs) (pc + 3) L (.int q :: rest)) : J k n (kW aa ad t σ rs) pc L (.int x0 :: .ref (ad 12) :: rest) := j_callVi (na := 1) (As := [.int x0]) (q0 := 12) (ci := 2) g hC q_i_X0_countMeaning q_s_X0_countMeaning rfl rfl rfl q_c_X0_countMeaning q_l_X8_221 q_n_X0 (by decide +kernel) rfl hR hkn hcat (((pb1 ([kc0 ad σ.2.2.2.2.2.2.2]) (nC (fun p => ad (p + 1)) t σ.1) (nC (fun p => ad (p + 15)) t σ.2.1 ++ (nC (fun p => ad (p + 29)) t σ.2.2.1 ++ (sC aa (fun p => ad (p + 43)) t (σ.2.2.2.1, σ.2.2.2.2.1) ++ (xC (fun p => ad (p + 46)) t σ.2.2.2.2.2.1 ++ (rC (fun p => ad (p + 48)) t σ.2.2.2.2.2.2.1 ++ rs))))))).trans (pm_n3 (fun p => ad (p + 1)) t σ.1 ([kc0 ad σ.2.2.2.2.2.2.2] ++ (nC (fun p => ad (p + 15)) t σ.2.1 ++ (nC (fun p => ad (p + 29)) t σ.2.2.1 ++ (sC aa (fun p => ad (p + 43)) t (σ.2.2.2.1, σ.2.2.2.2.1) ++ (xC (fun p => ad (p + 46)) t σ.2.2.2.2.2.1 ++ (rC (fun p => ad (p + 48)) t σ.2.2.2.2.2.2.1 ++ rs)))))))) ((((pb1 ([kc0 ad σ.2.2.2.2.2.2.2]) (nC (fun p => ad (p + 1)) t σ.1) (nC (fun p => ad (p + 15)) t σ.2.1 ++ (nC (fun p => ad (p + 29)) t σ.2.2.1 ++ (sC aa (fun p => ad (p + 43)) t (σ.2.2.2.1, σ.2.2.2.2.1) ++ (xC (fun p => ad (p + 46)) t σ.2.2.2.2.2.1 ++ (rC (fun p => ad (p + 48)) t σ.2.2.2.2.2.2.1 ++ rs))))))).trans (pm_n3 (fun p => ad (p + 1)) t σ.1 ([kc0 ad σ.2.2.2.2.2.2.2] ++ (nC (fun p => ad (p + 15)) t σ.2.1 ++ (nC (fun p => ad (p + 29)) t σ.2.2.1 ++ (sC aa (fun p => ad (p + 43)) t (σ.2.2.2.1, σ.2.2.2.2.1) ++ (xC (fun p => ad (p + 46)) t σ.2.2.2.2.2.1 ++ (rC (fun p => ad (p + 48)) t σ.2.2.2.2.2.2.1 ++ rs))))))))).symm hd kk rfl
set_option maxRecDepth 100000 in
set_option maxHeartbeats 4000000 in
theorem cX8_flagsWith_ {D : va_G} {t : Nat → ClassId} {aa : gx_AA} {l : Launch} {ad : Nat → Nat} {rs : va_W} {σ : CS} {p1 : Int32} {q : Int32} (hf : fX8_flagsWith σ p1 = some q) : gx_C D t (gx_E0 aa) l yX8_flagsWith cX8_flagsWith 2 (some .int) 1 23 [.ref (ad 0), .int p1] (kW aa ad t σ rs) (kW aa ad t σ rs) (some (.int q)) := by
  refine gx_intro_i (by decide) (Nat.le_of_ble_eq_true rfl) (fun J g hE0 => ?_)
  have hE : ∀ (v : Int32) (pc : Nat) (L : List (Nat × Value)), some v = some q → decode cX8_flagsWith pc = .ok (.ireturn, 1) → narrow .int (.int v) = .int v → J 0 0 (kW aa ad t σ rs) pc L [.int v] := fun v pc L h h1 h2 => by cases h; exact hE0 pc L h1 h2
  unfold fX8_flagsWith at hf
  show J 0 0 (kW aa ad t σ rs) 0 [(0, .ref (ad 0)), (1, .int p1)] []
  refine j_iload_n (pc := 0) g 1 dX8_flagsWith_0 rfl ?_
  refine j_if_lt (tgt := 10) (pc := 1) g dX8_flagsWith_1 (by decide) (fun c_1 => ?_) (fun c_1 => ?_)
  · have hf := gx_it c_1 hf
    cases hf
  · have hf := gx_if c_1 hf
    refine j_iload_n (pc := 4) g 1 dX8_flagsWith_4 rfl ?_
    refine j_bipush (v := 99) (pc := 5) g dX8_flagsWith_5 (by decide) ?_
    refine j_icmp_le (tgt := 20) (pc := 7) g dX8_flagsWith_7 (by decide) (fun c_7 => ?_) (fun c_7 => ?_)
    · have hf := gx_it c_7 hf
      refine j_aload_n (pc := 20) g 0 dX8_flagsWith_20 rfl ?_
      refine gK_X8_0_0 (σ := σ) (pc := 21) g dX8_flagsWith_21 ?_
      refine gK_X8_1_2 (σ := σ) (pc := 24) g dX8_flagsWith_24 ?_
      refine j_iload_n (pc := 27) g 1 dX8_flagsWith_27 rfl ?_
      obtain ⟨r28, h_28, hf⟩ := gx_bs hf
      refine cK_X8_X0_countMeaning_4 (σ := σ) (pc := 28) g (cX0_countMeaning_ (ad := (fun p => ad (p + 12))) h_28) ⟨Nat.le_of_ble_eq_true rfl, Nat.le_of_ble_eq_true rfl⟩ ⟨Nat.zero_le _, Nat.zero_le _⟩ (Nat.le_of_ble_eq_true rfl) dX8_flagsWith_28 ?_
      exact hE _ _ _ hf dX8_flagsWith_31 rfl
    · have hf := gx_if c_7 hf
      cases hf
theorem cK_X8_X3_atPlace_2 {D : va_G} {t : Nat → ClassId} {aa : gx_AA} {l : Launch} {R : Room} {cc : ByteArray} {nL : Nat} {J : gx_J} {ad : Nat → Nat} {rs : va_W} {k n pc : Nat} {L : List (Nat × Value)} {rest : List Value} (g : gx_G D t (gx_E0 aa) l R cc RX8 nL J) {σ : CS} {x0 : Int32} {q : Int32} {fr lo : Nat} (hC : gx_C D t (gx_E0 aa) l yX3_atPlace cX3_atPlace 3 (some .int) fr lo [.ref (ad 2), .int x0] (oC (fun p => ad (p + 2)) t σ.1.2.1 ++ (((ad (0 + 1), .inr (4, [.ref (ad (1 + 1)), .ref (ad (7 + 1)), .ref (ad (11 + 1)), .int (os_f σ.1.1 3), .int (os_f σ.1.1 4), .int (os_f σ.1.1 5), .int (os_f σ.1.1 6)])) :: (dC (fun p => ad (p + 8)) t σ.1.2.2.1 ++ bC (fun p => ad (p + 12)) t σ.1.2.2.2)) ++ ([kc0 ad σ.2.2.2.2.2.2.2] ++ (nC (fun p => ad (p + 15)) t σ.2.1 ++ (nC (fun p => ad (p + 29)) t σ.2.2.1 ++ (sC aa (fun p => ad (p + 43)) t (σ.2.2.2.1, σ.2.2.2.2.1) ++ (xC (fun p => ad (p + 46)) t σ.2.2.2.2.2.1 ++ (rC (fun p => ad (p + 48)) t σ.2.2.2.2.2.2.1 ++ rs)))))))) (oC (fun p => ad (p + 2)) t σ.1.2.1 ++ (((ad (0 + 1), .inr (4, [.ref (ad (1 + 1)), .ref (ad (7 + 1)), .ref (ad (11 + 1)), .int (os_f σ.1.1 3), .int (os_f σ.1.1 4), .int (os_f σ.1.1 5), .int (os_f σ.1.1 6)])) :: (dC (fun p => ad (p + 8)) t σ.1.2.2.1 ++ bC (fun p => ad (p + 12)) t σ.1.2.2.2)) ++ ([kc0 ad σ.2.2.2.2.2.2.2] ++ (nC (fun p => ad (p + 15)) t σ.2.1 ++ (nC (fun p => ad (p + 29)) t σ.2.2.1 ++ (sC aa (fun p => ad (p + 43)) t (σ.2.2.2.1, σ.2.2.2.2.1) ++ (xC (fun p => ad (p + 46)) t σ.2.2.2.2.2.1 ++ (rC (fun p => ad (p + 48)) t σ.2.2.2.2.2.2.1 ++ rs)))))))) (some (.int q))) (hR : fr + 1 ≤ R.frames ∧ 8 + (3 + 11) + lo ≤ R.locals) (hkn : k ≤ R.cells ∧ n ≤ R.slots) (hcat : (rest.map fun v => v.category).sum ≤ 8) (hd : decode cc pc = .ok (.invokevirtual 224, 3)) (kk : J k n (kW aa ad t σ rs) (pc + 3) L (.int q :: rest)) : J k n (kW aa ad t σ rs) pc L (.int x0 :: .ref (ad 2) :: rest) := j_callVi (na := 1) (As := [.int x0]) (q0 := 2) (ci := 5) g hC q_i_X3_atPlace q_s_X3_atPlace rfl rfl rfl q_c_X3_atPlace q_l_X8_224 q_n_X3 (by decide +kernel) rfl hR hkn hcat (((pb1 ([kc0 ad σ.2.2.2.2.2.2.2]) (nC (fun p => ad (p + 1)) t σ.1) (nC (fun p => ad (p + 15)) t σ.2.1 ++ (nC (fun p => ad (p + 29)) t σ.2.2.1 ++ (sC aa (fun p => ad (p + 43)) t (σ.2.2.2.1, σ.2.2.2.2.1) ++ (xC (fun p => ad (p + 46)) t σ.2.2.2.2.2.1 ++ (rC (fun p => ad (p + 48)) t σ.2.2.2.2.2.2.1 ++ rs))))))).trans (pm_n1 (fun p => ad (p + 1)) t σ.1 ([kc0 ad σ.2.2.2.2.2.2.2] ++ (nC (fun p => ad (p + 15)) t σ.2.1 ++ (nC (fun p => ad (p + 29)) t σ.2.2.1 ++ (sC aa (fun p => ad (p + 43)) t (σ.2.2.2.1, σ.2.2.2.2.1) ++ (xC (fun p => ad (p + 46)) t σ.2.2.2.2.2.1 ++ (rC (fun p => ad (p + 48)) t σ.2.2.2.2.2.2.1 ++ rs)))))))) ((((pb1 ([kc0 ad σ.2.2.2.2.2.2.2]) (nC (fun p => ad (p + 1)) t σ.1) (nC (fun p => ad (p + 15)) t σ.2.1 ++ (nC (fun p => ad (p + 29)) t σ.2.2.1 ++ (sC aa (fun p => ad (p + 43)) t (σ.2.2.2.1, σ.2.2.2.2.1) ++ (xC (fun p => ad (p + 46)) t σ.2.2.2.2.2.1 ++ (rC (fun p => ad (p + 48)) t σ.2.2.2.2.2.2.1 ++ rs))))))).trans (pm_n1 (fun p => ad (p + 1)) t σ.1 ([kc0 ad σ.2.2.2.2.2.2.2] ++ (nC (fun p => ad (p + 15)) t σ.2.1 ++ (nC (fun p => ad (p + 29)) t σ.2.2.1 ++ (sC aa (fun p => ad (p + 43)) t (σ.2.2.2.1, σ.2.2.2.2.1) ++ (xC (fun p => ad (p + 46)) t σ.2.2.2.2.2.1 ++ (rC (fun p => ad (p + 48)) t σ.2.2.2.2.2.2.1 ++ rs))))))))).symm hd kk rfl
set_option maxRecDepth 100000 in
set_option maxHeartbeats 4000000 in
theorem cX8_officerByRank_ {D : va_G} {t : Nat → ClassId} {aa : gx_AA} {l : Launch} {ad : Nat → Nat} {rs : va_W} {σ : CS} {p1 : Int32} {q : Int32} (hf : fX8_officerByRank σ p1 = some q) : gx_C D t (gx_E0 aa) l yX8_officerByRank cX8_officerByRank 3 (some .int) 3 67 [.ref (ad 0), .int p1] (kW aa ad t σ rs) (kW aa ad t σ rs) (some (.int q)) := by
  refine gx_intro_i (by decide) (Nat.le_of_ble_eq_true rfl) (fun J g hE0 => ?_)
  have hE : ∀ (v : Int32) (pc : Nat) (L : List (Nat × Value)), some v = some q → decode cX8_officerByRank pc = .ok (.ireturn, 1) → narrow .int (.int v) = .int v → J 0 0 (kW aa ad t σ rs) pc L [.int v] := fun v pc L h h1 h2 => by cases h; exact hE0 pc L h1 h2
  unfold fX8_officerByRank at hf
  show J 0 0 (kW aa ad t σ rs) 0 [(0, .ref (ad 0)), (1, .int p1)] []
  refine j_aload_n (pc := 0) g 0 dX8_officerByRank_0 rfl ?_
  refine gK_X8_0_0 (σ := σ) (pc := 1) g dX8_officerByRank_1 ?_
  refine gK_X8_1_0 (σ := σ) (pc := 4) g dX8_officerByRank_4 ?_
  refine j_iload_n (pc := 7) g 1 dX8_officerByRank_7 rfl ?_
  obtain ⟨r8, h_8, hf⟩ := gx_bs hf
  refine cK_X8_X3_atPlace_2 (σ := σ) (pc := 8) g (cX3_atPlace_ (ad := (fun p => ad (p + 2))) h_8) ⟨Nat.le_of_ble_eq_true rfl, Nat.le_of_ble_eq_true rfl⟩ ⟨Nat.zero_le _, Nat.zero_le _⟩ (Nat.le_of_ble_eq_true rfl) dX8_officerByRank_8 ?_
  refine j_istore_n (L' := [(2, .int r8), (0, .ref (ad 0)), (1, .int p1)]) (pc := 11) g dX8_officerByRank_11 rfl (Nat.le_of_ble_eq_true rfl) rfl ?_
  refine j_iload_n (pc := 12) g 0 dX8_officerByRank_12 rfl ?_
  refine j_iconst (v := -1) (pc := 13) g dX8_officerByRank_13 (by decide) ?_
  refine j_icmp_ne (tgt := 27) (pc := 14) g dX8_officerByRank_14 (by decide) (fun c_14 => ?_) (fun c_14 => ?_)
  · have hf := gx_if c_14 hf
    refine j_iload_n (pc := 27) g 0 dX8_officerByRank_27 rfl ?_
    exact hE _ _ _ hf dX8_officerByRank_28 rfl
  · have hf := gx_it c_14 hf
    cases hf
theorem cK_X8_X3_waysAgree_2 {D : va_G} {t : Nat → ClassId} {aa : gx_AA} {l : Launch} {R : Room} {cc : ByteArray} {nL : Nat} {J : gx_J} {ad : Nat → Nat} {rs : va_W} {k n pc : Nat} {L : List (Nat × Value)} {rest : List Value} (g : gx_G D t (gx_E0 aa) l R cc RX8 nL J) {σ : CS} {x0 : Int32} {q : Int32} {fr lo : Nat} (hC : gx_C D t (gx_E0 aa) l yX3_waysAgree cX3_waysAgree 3 (some .boolean) fr lo [.ref (ad 2), .int x0] (oC (fun p => ad (p + 2)) t σ.1.2.1 ++ (((ad (0 + 1), .inr (4, [.ref (ad (1 + 1)), .ref (ad (7 + 1)), .ref (ad (11 + 1)), .int (os_f σ.1.1 3), .int (os_f σ.1.1 4), .int (os_f σ.1.1 5), .int (os_f σ.1.1 6)])) :: (dC (fun p => ad (p + 8)) t σ.1.2.2.1 ++ bC (fun p => ad (p + 12)) t σ.1.2.2.2)) ++ ([kc0 ad σ.2.2.2.2.2.2.2] ++ (nC (fun p => ad (p + 15)) t σ.2.1 ++ (nC (fun p => ad (p + 29)) t σ.2.2.1 ++ (sC aa (fun p => ad (p + 43)) t (σ.2.2.2.1, σ.2.2.2.2.1) ++ (xC (fun p => ad (p + 46)) t σ.2.2.2.2.2.1 ++ (rC (fun p => ad (p + 48)) t σ.2.2.2.2.2.2.1 ++ rs)))))))) (oC (fun p => ad (p + 2)) t σ.1.2.1 ++ (((ad (0 + 1), .inr (4, [.ref (ad (1 + 1)), .ref (ad (7 + 1)), .ref (ad (11 + 1)), .int (os_f σ.1.1 3), .int (os_f σ.1.1 4), .int (os_f σ.1.1 5), .int (os_f σ.1.1 6)])) :: (dC (fun p => ad (p + 8)) t σ.1.2.2.1 ++ bC (fun p => ad (p + 12)) t σ.1.2.2.2)) ++ ([kc0 ad σ.2.2.2.2.2.2.2] ++ (nC (fun p => ad (p + 15)) t σ.2.1 ++ (nC (fun p => ad (p + 29)) t σ.2.2.1 ++ (sC aa (fun p => ad (p + 43)) t (σ.2.2.2.1, σ.2.2.2.2.1) ++ (xC (fun p => ad (p + 46)) t σ.2.2.2.2.2.1 ++ (rC (fun p => ad (p + 48)) t σ.2.2.2.2.2.2.1 ++ rs)))))))) (some (.int q))) (hR : fr + 1 ≤ R.frames ∧ 8 + (3 + 11) + lo ≤ R.locals) (hkn : k ≤ R.cells ∧ n ≤ R.slots) (hcat : (rest.map fun v => v.category).sum ≤ 8) (hd : decode cc pc = .ok (.invokevirtual 237, 3)) (kk : J k n (kW aa ad t σ rs) (pc + 3) L (.int q :: rest)) : J k n (kW aa ad t σ rs) pc L (.int x0 :: .ref (ad 2) :: rest) := j_callVi (na := 1) (As := [.int x0]) (q0 := 2) (ci := 5) g hC q_i_X3_waysAgree q_s_X3_waysAgree rfl rfl rfl q_c_X3_waysAgree q_l_X8_237 q_n_X3 (by decide +kernel) rfl hR hkn hcat (((pb1 ([kc0 ad σ.2.2.2.2.2.2.2]) (nC (fun p => ad (p + 1)) t σ.1) (nC (fun p => ad (p + 15)) t σ.2.1 ++ (nC (fun p => ad (p + 29)) t σ.2.2.1 ++ (sC aa (fun p => ad (p + 43)) t (σ.2.2.2.1, σ.2.2.2.2.1) ++ (xC (fun p => ad (p + 46)) t σ.2.2.2.2.2.1 ++ (rC (fun p => ad (p + 48)) t σ.2.2.2.2.2.2.1 ++ rs))))))).trans (pm_n1 (fun p => ad (p + 1)) t σ.1 ([kc0 ad σ.2.2.2.2.2.2.2] ++ (nC (fun p => ad (p + 15)) t σ.2.1 ++ (nC (fun p => ad (p + 29)) t σ.2.2.1 ++ (sC aa (fun p => ad (p + 43)) t (σ.2.2.2.1, σ.2.2.2.2.1) ++ (xC (fun p => ad (p + 46)) t σ.2.2.2.2.2.1 ++ (rC (fun p => ad (p + 48)) t σ.2.2.2.2.2.2.1 ++ rs)))))))) ((((pb1 ([kc0 ad σ.2.2.2.2.2.2.2]) (nC (fun p => ad (p + 1)) t σ.1) (nC (fun p => ad (p + 15)) t σ.2.1 ++ (nC (fun p => ad (p + 29)) t σ.2.2.1 ++ (sC aa (fun p => ad (p + 43)) t (σ.2.2.2.1, σ.2.2.2.2.1) ++ (xC (fun p => ad (p + 46)) t σ.2.2.2.2.2.1 ++ (rC (fun p => ad (p + 48)) t σ.2.2.2.2.2.2.1 ++ rs))))))).trans (pm_n1 (fun p => ad (p + 1)) t σ.1 ([kc0 ad σ.2.2.2.2.2.2.2] ++ (nC (fun p => ad (p + 15)) t σ.2.1 ++ (nC (fun p => ad (p + 29)) t σ.2.2.1 ++ (sC aa (fun p => ad (p + 43)) t (σ.2.2.2.1, σ.2.2.2.2.1) ++ (xC (fun p => ad (p + 46)) t σ.2.2.2.2.2.1 ++ (rC (fun p => ad (p + 48)) t σ.2.2.2.2.2.2.1 ++ rs))))))))).symm hd kk rfl
set_option maxRecDepth 100000 in
set_option maxHeartbeats 4000000 in
theorem tX8_isConsistent_2 {D : va_G} {t : Nat → ClassId} {aa : gx_AA} {l : Launch} {J : gx_J} {ad : Nat → Nat} {rs : va_W} {σ : CS} {q : Int32} (g : gx_G D t (gx_E0 aa) l ({ frames := 18, cells := 0, slots := 0, locals := 447 }) cX8_isConsistent RX8 2 J) (hE : ∀ (v : Int32) (pc : Nat) (L : List (Nat × Value)), some v = some q → decode cX8_isConsistent pc = .ok (.ireturn, 1) → narrow .boolean (.int v) = .int v → J 0 0 (kW aa ad t σ rs) pc L [.int v])  : ∀ (n : Nat) (v1 : Int32), fX8_isConsistent_2 σ n v1 = some q → J 0 0 (kW aa ad t σ rs) 2 [(0, .ref (ad 0)), (1, .int v1)] [] := by
  intro n
  induction n with
  | zero => intro v1 hf; cases hf
  | succ n ih =>
    intro v1 hf
    replace hf := (fX8_isConsistent_2_s σ n v1).symm.trans hf
    refine j_iload_n (pc := 2) g 1 dX8_isConsistent_2 rfl ?_
    refine j_bipush (v := 12) (pc := 3) g dX8_isConsistent_3 (by decide) ?_
    refine j_icmp_ge (tgt := 44) (pc := 5) g dX8_isConsistent_5 (by decide) (fun c_5 => ?_) (fun c_5 => ?_)
    · have hf := gx_it c_5 hf
      refine j_iconst (v := 1) (pc := 44) g dX8_isConsistent_44 (by decide) ?_
      exact hE _ _ _ hf dX8_isConsistent_45 rfl
    · have hf := gx_if c_5 hf
      refine j_aload_n (pc := 8) g 0 dX8_isConsistent_8 rfl ?_
      refine gK_X8_0_0 (σ := σ) (pc := 9) g dX8_isConsistent_9 ?_
      refine gK_X8_1_0 (σ := σ) (pc := 12) g dX8_isConsistent_12 ?_
      refine j_iload_n (pc := 15) g 1 dX8_isConsistent_15 rfl ?_
      obtain ⟨r16, h_16, hf⟩ := gx_bs hf
      refine cK_X8_X3_serves_2 (σ := σ) (pc := 16) g (cX3_serves_ (ad := (fun p => ad (p + 2))) h_16) ⟨Nat.le_of_ble_eq_true rfl, Nat.le_of_ble_eq_true rfl⟩ ⟨Nat.zero_le _, Nat.zero_le _⟩ (Nat.le_of_ble_eq_true rfl) dX8_isConsistent_16 ?_
      refine j_if_eq (tgt := 38) (pc := 19) g dX8_isConsistent_19 (by decide) (fun c_19 => ?_) (fun c_19 => ?_)
      · have hf := gx_it c_19 hf
        refine j_iinc (v := v1 + 1) (L' := [(1, .int (v1 + 1)), (0, .ref (ad 0))]) (pc := 38) g 1 dX8_isConsistent_38 rfl rfl (Nat.le_of_ble_eq_true rfl) rfl ?_
        refine j_goto (tgt := 2) (pc := 41) g dX8_isConsistent_41 (by decide) ?_
        refine j_sub (pc := 2) g [1, 0] rfl ?_
        exact ih (v1 + 1) hf
      · have hf := gx_if c_19 hf
        refine j_aload_n (pc := 22) g 0 dX8_isConsistent_22 rfl ?_
        refine gK_X8_0_0 (σ := σ) (pc := 23) g dX8_isConsistent_23 ?_
        refine gK_X8_1_0 (σ := σ) (pc := 26) g dX8_isConsistent_26 ?_
        refine j_iload_n (pc := 29) g 1 dX8_isConsistent_29 rfl ?_
        obtain ⟨r30, h_30, hf⟩ := gx_bs hf
        refine cK_X8_X3_waysAgree_2 (σ := σ) (pc := 30) g (cX3_waysAgree_ (ad := (fun p => ad (p + 2))) h_30) ⟨Nat.le_of_ble_eq_true rfl, Nat.le_of_ble_eq_true rfl⟩ ⟨Nat.zero_le _, Nat.zero_le _⟩ (Nat.le_of_ble_eq_true rfl) dX8_isConsistent_30 ?_
        refine j_if_ne (tgt := 38) (pc := 33) g dX8_isConsistent_33 (by decide) (fun c_33 => ?_) (fun c_33 => ?_)
        · have hf := gx_if c_33 hf
          refine j_iinc (v := v1 + 1) (L' := [(1, .int (v1 + 1)), (0, .ref (ad 0))]) (pc := 38) g 1 dX8_isConsistent_38 rfl rfl (Nat.le_of_ble_eq_true rfl) rfl ?_
          refine j_goto (tgt := 2) (pc := 41) g dX8_isConsistent_41 (by decide) ?_
          refine j_sub (pc := 2) g [1, 0] rfl ?_
          exact ih (v1 + 1) hf
        · have hf := gx_it c_33 hf
          refine j_iconst (v := 0) (pc := 36) g dX8_isConsistent_36 (by decide) ?_
          exact hE _ _ _ hf dX8_isConsistent_37 rfl
set_option maxRecDepth 100000 in
set_option maxHeartbeats 4000000 in
theorem cX8_isConsistent_ {D : va_G} {t : Nat → ClassId} {aa : gx_AA} {l : Launch} {ad : Nat → Nat} {rs : va_W} {σ : CS} {q : Int32} (hf : fX8_isConsistent σ = some q) : gx_C D t (gx_E0 aa) l yX8_isConsistent cX8_isConsistent 2 (some .boolean) 18 447 [.ref (ad 0)] (kW aa ad t σ rs) (kW aa ad t σ rs) (some (.int q)) := by
  refine gx_intro_i (by decide) (Nat.le_of_ble_eq_true rfl) (fun J g hE0 => ?_)
  have hE : ∀ (v : Int32) (pc : Nat) (L : List (Nat × Value)), some v = some q → decode cX8_isConsistent pc = .ok (.ireturn, 1) → narrow .boolean (.int v) = .int v → J 0 0 (kW aa ad t σ rs) pc L [.int v] := fun v pc L h h1 h2 => by cases h; exact hE0 pc L h1 h2
  unfold fX8_isConsistent at hf
  show J 0 0 (kW aa ad t σ rs) 0 [(0, .ref (ad 0))] []
  refine j_iconst (v := 0) (pc := 0) g dX8_isConsistent_0 (by decide) ?_
  refine j_istore_n (L' := [(1, .int (0 : Int32)), (0, .ref (ad 0))]) (pc := 1) g dX8_isConsistent_1 rfl (Nat.le_of_ble_eq_true rfl) rfl ?_
  refine j_sub (pc := 2) g [1, 0] rfl ?_
  exact tX8_isConsistent_2 g hE 2000 (0 : Int32) hf
theorem gK_X8_0_4 {D : va_G} {t : Nat → ClassId} {aa : gx_AA} {l : Launch} {R : Room} {cc : ByteArray} {nL : Nat} {J : gx_J} {ad : Nat → Nat} {rs : va_W} {k n pc : Nat} {L : List (Nat × Value)} {st : List Value} (g : gx_G D t (gx_E0 aa) l R cc RX8 nL J) {σ : CS} (hd : decode cc pc = .ok (.getfield 32, 3)) (kk : J k n (kW aa ad t σ rs) (pc + 3) L (.ref (ad 43) :: st)) : J k n (kW aa ad t σ rs) pc L (.ref (ad 0) :: st) := j_get g in_X8 0 rfl rfl 4 (by decide) q_f_X8_32 rfl rfl hd kk
theorem gK_X8_13_0 {D : va_G} {t : Nat → ClassId} {aa : gx_AA} {l : Launch} {R : Room} {cc : ByteArray} {nL : Nat} {J : gx_J} {ad : Nat → Nat} {rs : va_W} {k n pc : Nat} {L : List (Nat × Value)} {st : List Value} (g : gx_G D t (gx_E0 aa) l R cc RX8 nL J) {σ : CS} (hd : decode cc pc = .ok (.getfield 240, 3)) (kk : J k n (kW aa ad t σ rs) (pc + 3) L (.ref (ad 44) :: st)) : J k n (kW aa ad t σ rs) pc L (.ref (ad 43) :: st) := j_get g in_X5 43 rfl rfl 0 (by decide) q_f_X8_240 rfl rfl hd kk
theorem cK_X8_X6_add_14 {D : va_G} {t : Nat → ClassId} {aa : gx_AA} {l : Launch} {R : Room} {cc : ByteArray} {nL : Nat} {J : gx_J} {ad : Nat → Nat} {rs : va_W} {k n pc : Nat} {L : List (Nat × Value)} {rest : List Value} (g : gx_G D t (gx_E0 aa) l R cc RX8 nL J) {σ : CS} {x0 : Int32} {q : (Int32 × OS)} {fr lo : Nat} (hC : gx_C D t (gx_E0 aa) l yX6_add cX6_add 2 (some .boolean) fr lo [.ref (ad 44), .int x0] (xC (fun p => ad (p + 44)) t σ.2.2.2.2.1 ++ ([(ad (0 + 43), .inr (7, [.ref (ad (1 + 43)), .int (os_f σ.2.2.2.1 1), gx_ve aa (os_f σ.2.2.2.1 2), .int (os_f σ.2.2.2.1 3), .int (os_f σ.2.2.2.1 4), .int (os_f σ.2.2.2.1 5)]))] ++ ([kc0 ad σ.2.2.2.2.2.2.2] ++ (nC (fun p => ad (p + 1)) t σ.1 ++ (nC (fun p => ad (p + 15)) t σ.2.1 ++ (nC (fun p => ad (p + 29)) t σ.2.2.1 ++ (xC (fun p => ad (p + 46)) t σ.2.2.2.2.2.1 ++ (rC (fun p => ad (p + 48)) t σ.2.2.2.2.2.2.1 ++ rs)))))))) (xC (fun p => ad (p + 44)) t q.2 ++ ([(ad (0 + 43), .inr (7, [.ref (ad (1 + 43)), .int (os_f σ.2.2.2.1 1), gx_ve aa (os_f σ.2.2.2.1 2), .int (os_f σ.2.2.2.1 3), .int (os_f σ.2.2.2.1 4), .int (os_f σ.2.2.2.1 5)]))] ++ ([kc0 ad σ.2.2.2.2.2.2.2] ++ (nC (fun p => ad (p + 1)) t σ.1 ++ (nC (fun p => ad (p + 15)) t σ.2.1 ++ (nC (fun p => ad (p + 29)) t σ.2.2.1 ++ (xC (fun p => ad (p + 46)) t σ.2.2.2.2.2.1 ++ (rC (fun p => ad (p + 48)) t σ.2.2.2.2.2.2.1 ++ rs)))))))) (some (.int q.1))) (hR : fr + 1 ≤ R.frames ∧ 8 + (2 + 11) + lo ≤ R.locals) (hkn : k ≤ R.cells ∧ n ≤ R.slots) (hcat : (rest.map fun v => v.category).sum ≤ 8) (hd : decode cc pc = .ok (.invokevirtual 243, 3)) (kk : J k n (kW aa ad t (σ.1, (σ.2.1, (σ.2.2.1, (σ.2.2.2.1, (q.2, σ.2.2.2.2.2))))) rs) (pc + 3) L (.int q.1 :: rest)) : J k n (kW aa ad t σ rs) pc L (.int x0 :: .ref (ad 44) :: rest) := j_callVi (na := 1) (As := [.int x0]) (q0 := 44) (ci := 8) g hC q_i_X6_add q_s_X6_add rfl rfl rfl q_c_X6_add q_l_X8_243 q_n_X6 (by decide +kernel) rfl hR hkn hcat (((pb4 ([kc0 ad σ.2.2.2.2.2.2.2]) (nC (fun p => ad (p + 1)) t σ.1) (nC (fun p => ad (p + 15)) t σ.2.1) (nC (fun p => ad (p + 29)) t σ.2.2.1) (sC aa (fun p => ad (p + 43)) t (σ.2.2.2.1, σ.2.2.2.2.1)) (xC (fun p => ad (p + 46)) t σ.2.2.2.2.2.1 ++ (rC (fun p => ad (p + 48)) t σ.2.2.2.2.2.2.1 ++ rs)))).trans (pm_x [(ad (0 + 43), .inr (7, [.ref (ad (1 + 43)), .int (os_f σ.2.2.2.1 1), gx_ve aa (os_f σ.2.2.2.1 2), .int (os_f σ.2.2.2.1 3), .int (os_f σ.2.2.2.1 4), .int (os_f σ.2.2.2.1 5)]))] (xC (fun p => ad (p + 44)) t σ.2.2.2.2.1) ([kc0 ad σ.2.2.2.2.2.2.2] ++ (nC (fun p => ad (p + 1)) t σ.1 ++ (nC (fun p => ad (p + 15)) t σ.2.1 ++ (nC (fun p => ad (p + 29)) t σ.2.2.1 ++ (xC (fun p => ad (p + 46)) t σ.2.2.2.2.2.1 ++ (rC (fun p => ad (p + 48)) t σ.2.2.2.2.2.2.1 ++ rs)))))))) ((((pb4 ([kc0 ad σ.2.2.2.2.2.2.2]) (nC (fun p => ad (p + 1)) t σ.1) (nC (fun p => ad (p + 15)) t σ.2.1) (nC (fun p => ad (p + 29)) t σ.2.2.1) (sC aa (fun p => ad (p + 43)) t (σ.2.2.2.1, q.2)) (xC (fun p => ad (p + 46)) t σ.2.2.2.2.2.1 ++ (rC (fun p => ad (p + 48)) t σ.2.2.2.2.2.2.1 ++ rs)))).trans (pm_x [(ad (0 + 43), .inr (7, [.ref (ad (1 + 43)), .int (os_f σ.2.2.2.1 1), gx_ve aa (os_f σ.2.2.2.1 2), .int (os_f σ.2.2.2.1 3), .int (os_f σ.2.2.2.1 4), .int (os_f σ.2.2.2.1 5)]))] (xC (fun p => ad (p + 44)) t q.2) ([kc0 ad σ.2.2.2.2.2.2.2] ++ (nC (fun p => ad (p + 1)) t σ.1 ++ (nC (fun p => ad (p + 15)) t σ.2.1 ++ (nC (fun p => ad (p + 29)) t σ.2.2.1 ++ (xC (fun p => ad (p + 46)) t σ.2.2.2.2.2.1 ++ (rC (fun p => ad (p + 48)) t σ.2.2.2.2.2.2.1 ++ rs))))))))).symm hd kk rfl
theorem gK_X8_14_1 {D : va_G} {t : Nat → ClassId} {aa : gx_AA} {l : Launch} {R : Room} {cc : ByteArray} {nL : Nat} {J : gx_J} {ad : Nat → Nat} {rs : va_W} {k n pc : Nat} {L : List (Nat × Value)} {st : List Value} (g : gx_G D t (gx_E0 aa) l R cc RX8 nL J) {σ : CS} (hd : decode cc pc = .ok (.getfield 252, 3)) (kk : J k n (kW aa ad t σ rs) (pc + 3) L (.int (os_f σ.2.2.2.2.1 1) :: st)) : J k n (kW aa ad t σ rs) pc L (.ref (ad 44) :: st) := j_get g in_X6 44 rfl rfl 1 (by decide) q_f_X8_252 rfl rfl hd kk
set_option maxRecDepth 100000 in
set_option maxHeartbeats 4000000 in
theorem cX8_feed_ {D : va_G} {t : Nat → ClassId} {aa : gx_AA} {l : Launch} {ad : Nat → Nat} {rs : va_W} {σ : CS} {p1 : Int32} {q : (Int32 × CS)} (hf : fX8_feed σ p1 = some q) : gx_C D t (gx_E0 aa) l yX8_feed cX8_feed 2 (some .int) 1 21 [.ref (ad 0), .int p1] (kW aa ad t σ rs) (kW aa ad t q.2 rs) (some (.int q.1)) := by
  refine gx_intro_i (by decide) (Nat.le_of_ble_eq_true rfl) (fun J g hE0 => ?_)
  have hE : ∀ (v : Int32) (σ : CS) (pc : Nat) (L : List (Nat × Value)), some (v, σ) = some q → decode cX8_feed pc = .ok (.ireturn, 1) → narrow .int (.int v) = .int v → J 0 0 (kW aa ad t σ rs) pc L [.int v] := fun v σ pc L h h1 h2 => by cases h; exact hE0 pc L h1 h2
  unfold fX8_feed at hf
  show J 0 0 (kW aa ad t σ rs) 0 [(0, .ref (ad 0)), (1, .int p1)] []
  refine j_aload_n (pc := 0) g 0 dX8_feed_0 rfl ?_
  refine gK_X8_0_4 (σ := σ) (pc := 1) g dX8_feed_1 ?_
  refine gK_X8_13_0 (σ := σ) (pc := 4) g dX8_feed_4 ?_
  refine j_iload_n (pc := 7) g 1 dX8_feed_7 rfl ?_
  obtain ⟨r8, h_8, hf⟩ := gx_bs hf
  refine cK_X8_X6_add_14 (σ := σ) (pc := 8) g (cX6_add_ (ad := (fun p => ad (p + 44))) h_8) ⟨Nat.le_of_ble_eq_true rfl, Nat.le_of_ble_eq_true rfl⟩ ⟨Nat.zero_le _, Nat.zero_le _⟩ (Nat.le_of_ble_eq_true rfl) dX8_feed_8 ?_
  refine j_if_ne (tgt := 24) (pc := 11) g dX8_feed_11 (by decide) (fun c_11 => ?_) (fun c_11 => ?_)
  · have hf := gx_if c_11 hf
    refine j_aload_n (pc := 24) g 0 dX8_feed_24 rfl ?_
    refine gK_X8_0_4 (σ := (σ.1, (σ.2.1, (σ.2.2.1, (σ.2.2.2.1, (r8.2, σ.2.2.2.2.2)))))) (pc := 25) g dX8_feed_25 ?_
    refine gK_X8_13_0 (σ := (σ.1, (σ.2.1, (σ.2.2.1, (σ.2.2.2.1, (r8.2, σ.2.2.2.2.2)))))) (pc := 28) g dX8_feed_28 ?_
    refine gK_X8_14_1 (σ := (σ.1, (σ.2.1, (σ.2.2.1, (σ.2.2.2.1, (r8.2, σ.2.2.2.2.2)))))) (pc := 31) g dX8_feed_31 ?_
    exact hE _ _ _ _ hf dX8_feed_34 rfl
  · have hf := gx_it c_11 hf
    cases hf
theorem cK_X8_X5_readAll_13 {D : va_G} {t : Nat → ClassId} {aa : gx_AA} {l : Launch} {R : Room} {cc : ByteArray} {nL : Nat} {J : gx_J} {ad : Nat → Nat} {rs : va_W} {k n pc : Nat} {L : List (Nat × Value)} {rest : List Value} (g : gx_G D t (gx_E0 aa) l R cc RX8 nL J) {σ : CS} {q : (Int32 × (OS × OS))} {fr lo : Nat} (hC : gx_C D t (gx_E0 aa) l yX5_readAll cX5_readAll 2 (some .int) fr lo [.ref (ad 43)] (sC aa (fun p => ad (p + 43)) t (σ.2.2.2.1, σ.2.2.2.2.1) ++ ([kc0 ad σ.2.2.2.2.2.2.2] ++ (nC (fun p => ad (p + 1)) t σ.1 ++ (nC (fun p => ad (p + 15)) t σ.2.1 ++ (nC (fun p => ad (p + 29)) t σ.2.2.1 ++ (xC (fun p => ad (p + 46)) t σ.2.2.2.2.2.1 ++ (rC (fun p => ad (p + 48)) t σ.2.2.2.2.2.2.1 ++ rs))))))) (sC aa (fun p => ad (p + 43)) t q.2 ++ ([kc0 ad σ.2.2.2.2.2.2.2] ++ (nC (fun p => ad (p + 1)) t σ.1 ++ (nC (fun p => ad (p + 15)) t σ.2.1 ++ (nC (fun p => ad (p + 29)) t σ.2.2.1 ++ (xC (fun p => ad (p + 46)) t σ.2.2.2.2.2.1 ++ (rC (fun p => ad (p + 48)) t σ.2.2.2.2.2.2.1 ++ rs))))))) (some (.int q.1))) (hR : fr + 1 ≤ R.frames ∧ 8 + (2 + 11) + lo ≤ R.locals) (hkn : k ≤ R.cells ∧ n ≤ R.slots) (hcat : (rest.map fun v => v.category).sum ≤ 8) (hd : decode cc pc = .ok (.invokevirtual 255, 3)) (kk : J k n (kW aa ad t (σ.1, (σ.2.1, (σ.2.2.1, (q.2.1, (q.2.2, σ.2.2.2.2.2))))) rs) (pc + 3) L (.int q.1 :: rest)) : J k n (kW aa ad t σ rs) pc L (.ref (ad 43) :: rest) := j_callVi (na := 0) (As := []) (q0 := 43) (ci := 7) g hC q_i_X5_readAll q_s_X5_readAll rfl rfl rfl q_c_X5_readAll q_l_X8_255 q_n_X5 (by decide +kernel) rfl hR hkn hcat (pb4 ([kc0 ad σ.2.2.2.2.2.2.2]) (nC (fun p => ad (p + 1)) t σ.1) (nC (fun p => ad (p + 15)) t σ.2.1) (nC (fun p => ad (p + 29)) t σ.2.2.1) (sC aa (fun p => ad (p + 43)) t (σ.2.2.2.1, σ.2.2.2.2.1)) (xC (fun p => ad (p + 46)) t σ.2.2.2.2.2.1 ++ (rC (fun p => ad (p + 48)) t σ.2.2.2.2.2.2.1 ++ rs))) ((pb4 ([kc0 ad σ.2.2.2.2.2.2.2]) (nC (fun p => ad (p + 1)) t σ.1) (nC (fun p => ad (p + 15)) t σ.2.1) (nC (fun p => ad (p + 29)) t σ.2.2.1) (sC aa (fun p => ad (p + 43)) t (q.2.1, q.2.2)) (xC (fun p => ad (p + 46)) t σ.2.2.2.2.2.1 ++ (rC (fun p => ad (p + 48)) t σ.2.2.2.2.2.2.1 ++ rs)))).symm hd kk rfl
theorem gK_X8_0_7 {D : va_G} {t : Nat → ClassId} {aa : gx_AA} {l : Launch} {R : Room} {cc : ByteArray} {nL : Nat} {J : gx_J} {ad : Nat → Nat} {rs : va_W} {k n pc : Nat} {L : List (Nat × Value)} {st : List Value} (g : gx_G D t (gx_E0 aa) l R cc RX8 nL J) {σ : CS} (hd : decode cc pc = .ok (.getfield 47, 3)) (kk : J k n (kW aa ad t σ rs) (pc + 3) L (.int (os_f σ.2.2.2.2.2.2.2 7) :: st)) : J k n (kW aa ad t σ rs) pc L (.ref (ad 0) :: st) := j_get g in_X8 0 rfl rfl 7 (by decide) q_f_X8_47 rfl rfl hd kk
theorem gK_X8_0_8 {D : va_G} {t : Nat → ClassId} {aa : gx_AA} {l : Launch} {R : Room} {cc : ByteArray} {nL : Nat} {J : gx_J} {ad : Nat → Nat} {rs : va_W} {k n pc : Nat} {L : List (Nat × Value)} {st : List Value} (g : gx_G D t (gx_E0 aa) l R cc RX8 nL J) {σ : CS} (hd : decode cc pc = .ok (.getfield 51, 3)) (kk : J k n (kW aa ad t σ rs) (pc + 3) L (.int (os_f σ.2.2.2.2.2.2.2 8) :: st)) : J k n (kW aa ad t σ rs) pc L (.ref (ad 0) :: st) := j_get g in_X8 0 rfl rfl 8 (by decide) q_f_X8_51 rfl rfl hd kk
theorem gK_X8_0_5 {D : va_G} {t : Nat → ClassId} {aa : gx_AA} {l : Launch} {R : Room} {cc : ByteArray} {nL : Nat} {J : gx_J} {ad : Nat → Nat} {rs : va_W} {k n pc : Nat} {L : List (Nat × Value)} {st : List Value} (g : gx_G D t (gx_E0 aa) l R cc RX8 nL J) {σ : CS} (hd : decode cc pc = .ok (.getfield 39, 3)) (kk : J k n (kW aa ad t σ rs) (pc + 3) L (.ref (ad 46) :: st)) : J k n (kW aa ad t σ rs) pc L (.ref (ad 0) :: st) := j_get g in_X8 0 rfl rfl 5 (by decide) q_f_X8_39 rfl rfl hd kk
theorem gK_X8_15_1 {D : va_G} {t : Nat → ClassId} {aa : gx_AA} {l : Launch} {R : Room} {cc : ByteArray} {nL : Nat} {J : gx_J} {ad : Nat → Nat} {rs : va_W} {k n pc : Nat} {L : List (Nat × Value)} {st : List Value} (g : gx_G D t (gx_E0 aa) l R cc RX8 nL J) {σ : CS} (hd : decode cc pc = .ok (.getfield 252, 3)) (kk : J k n (kW aa ad t σ rs) (pc + 3) L (.int (os_f σ.2.2.2.2.2.1 1) :: st)) : J k n (kW aa ad t σ rs) pc L (.ref (ad 46) :: st) := j_get g in_X6 46 rfl rfl 1 (by decide) q_f_X8_252 rfl rfl hd kk
theorem gK_X8_15_0 {D : va_G} {t : Nat → ClassId} {aa : gx_AA} {l : Launch} {R : Room} {cc : ByteArray} {nL : Nat} {J : gx_J} {ad : Nat → Nat} {rs : va_W} {k n pc : Nat} {L : List (Nat × Value)} {st : List Value} (g : gx_G D t (gx_E0 aa) l R cc RX8 nL J) {σ : CS} (hd : decode cc pc = .ok (.getfield 287, 3)) (kk : J k n (kW aa ad t σ rs) (pc + 3) L (.ref (ad 47) :: st)) : J k n (kW aa ad t σ rs) pc L (.ref (ad 46) :: st) := j_get g in_X6 46 rfl rfl 0 (by decide) q_f_X8_287 rfl rfl hd kk
theorem lK_X8_15_0 {D : va_G} {t : Nat → ClassId} {aa : gx_AA} {l : Launch} {R : Room} {cc : ByteArray} {nL : Nat} {J : gx_J} {ad : Nat → Nat} {rs : va_W} {k n pc : Nat} {L : List (Nat × Value)} {st : List Value} (g : gx_G D t (gx_E0 aa) l R cc RX8 nL J) {σ : CS} {i : Int32} (hin : gx_in i 60) (hd : decode cc pc = .ok (.caload, 1)) (kk : J k n (kW aa ad t σ rs) (pc + 1) L (.int (os_a σ.2.2.2.2.2.1 0 i.toNatClampNeg) :: st)) : J k n (kW aa ad t σ rs) pc L (.int i :: .ref (ad 47) :: st) := j_cald g 47 rfl hin hd kk
set_option maxRecDepth 100000 in
set_option maxHeartbeats 4000000 in
theorem cX8_outputChar_ {D : va_G} {t : Nat → ClassId} {aa : gx_AA} {l : Launch} {ad : Nat → Nat} {rs : va_W} {σ : CS} {p1 : Int32} {q : Int32} (hf : fX8_outputChar σ p1 = some q) : gx_C D t (gx_E0 aa) l yX8_outputChar cX8_outputChar 2 (some .char) 0 0 [.ref (ad 0), .int p1] (kW aa ad t σ rs) (kW aa ad t σ rs) (some (.int q)) := by
  refine gx_intro_i (by decide) (Nat.le_of_ble_eq_true rfl) (fun J g hE0 => ?_)
  have hE : ∀ (v : Int32) (pc : Nat) (L : List (Nat × Value)), some v = some q → decode cX8_outputChar pc = .ok (.ireturn, 1) → narrow .char (.int v) = .int v → J 0 0 (kW aa ad t σ rs) pc L [.int v] := fun v pc L h h1 h2 => by cases h; exact hE0 pc L h1 h2
  unfold fX8_outputChar at hf
  show J 0 0 (kW aa ad t σ rs) 0 [(0, .ref (ad 0)), (1, .int p1)] []
  refine j_iload_n (pc := 0) g 1 dX8_outputChar_0 rfl ?_
  refine j_if_lt (tgt := 15) (pc := 1) g dX8_outputChar_1 (by decide) (fun c_1 => ?_) (fun c_1 => ?_)
  · have hf := gx_it c_1 hf
    cases hf
  · have hf := gx_if c_1 hf
    refine j_iload_n (pc := 4) g 1 dX8_outputChar_4 rfl ?_
    refine j_aload_n (pc := 5) g 0 dX8_outputChar_5 rfl ?_
    refine gK_X8_0_5 (σ := σ) (pc := 6) g dX8_outputChar_6 ?_
    refine gK_X8_15_1 (σ := σ) (pc := 9) g dX8_outputChar_9 ?_
    refine j_icmp_lt (tgt := 26) (pc := 12) g dX8_outputChar_12 (by decide) (fun c_12 => ?_) (fun c_12 => ?_)
    · have hf := gx_it c_12 hf
      refine j_aload_n (pc := 26) g 0 dX8_outputChar_26 rfl ?_
      refine gK_X8_0_5 (σ := σ) (pc := 27) g dX8_outputChar_27 ?_
      refine gK_X8_15_0 (σ := σ) (pc := 30) g dX8_outputChar_30 ?_
      refine j_iload_n (pc := 33) g 1 dX8_outputChar_33 rfl ?_
      obtain ⟨h_34, hf⟩ := gx_ck hf
      refine lK_X8_15_0 (σ := σ) (pc := 34) g h_34 dX8_outputChar_34 ?_
      obtain ⟨h_r, hf⟩ := gx_ck hf
      exact hE _ _ _ hf dX8_outputChar_35 (gx_narC h_r)
    · have hf := gx_if c_12 hf
      cases hf
theorem gK_X8_0_3 {D : va_G} {t : Nat → ClassId} {aa : gx_AA} {l : Launch} {R : Room} {cc : ByteArray} {nL : Nat} {J : gx_J} {ad : Nat → Nat} {rs : va_W} {k n pc : Nat} {L : List (Nat × Value)} {st : List Value} (g : gx_G D t (gx_E0 aa) l R cc RX8 nL J) {σ : CS} (hd : decode cc pc = .ok (.getfield 25, 3)) (kk : J k n (kW aa ad t σ rs) (pc + 3) L (.ref (ad 48) :: st)) : J k n (kW aa ad t σ rs) pc L (.ref (ad 0) :: st) := j_get g in_X8 0 rfl rfl 3 (by decide) q_f_X8_25 rfl rfl hd kk
theorem gK_hcount {D : va_G} {t : Nat → ClassId} {aa : gx_AA} {l : Launch} {R : Room} {cc : ByteArray} {nL : Nat} {J : gx_J} {ad : Nat → Nat} {rs : va_W} {k n pc : Nat} {L : List (Nat × Value)} {st : List Value} (g : gx_G D t (gx_E0 aa) l R cc RX8 nL J) {σ : CS} (hd : decode cc pc = .ok (.getfield 291, 3)) (kk : J k n (kW aa ad t σ rs) (pc + 3) L (.int (os_f σ.2.2.2.2.2.2.1.1 2) :: st)) : J k n (kW aa ad t σ rs) pc L (.ref (ad 48) :: st) := j_getN g in_X1 48 rfl rfl 2 (by decide) q_ef_X8_291 rfl rfl hd kk
set_option maxRecDepth 100000 in
set_option maxHeartbeats 4000000 in
theorem cX8_undoCount_ {D : va_G} {t : Nat → ClassId} {aa : gx_AA} {l : Launch} {ad : Nat → Nat} {rs : va_W} {σ : CS} {q : Int32} (hf : fX8_undoCount σ = some q) : gx_C D t (gx_E0 aa) l yX8_undoCount cX8_undoCount 1 (some .int) 0 0 [.ref (ad 0)] (kW aa ad t σ rs) (kW aa ad t σ rs) (some (.int q)) := by
  refine gx_intro_i (by decide) (Nat.le_of_ble_eq_true rfl) (fun J g hE0 => ?_)
  have hE : ∀ (v : Int32) (pc : Nat) (L : List (Nat × Value)), some v = some q → decode cX8_undoCount pc = .ok (.ireturn, 1) → narrow .int (.int v) = .int v → J 0 0 (kW aa ad t σ rs) pc L [.int v] := fun v pc L h h1 h2 => by cases h; exact hE0 pc L h1 h2
  unfold fX8_undoCount at hf
  show J 0 0 (kW aa ad t σ rs) 0 [(0, .ref (ad 0))] []
  refine j_aload_n (pc := 0) g 0 dX8_undoCount_0 rfl ?_
  refine gK_X8_0_3 (σ := σ) (pc := 1) g dX8_undoCount_1 ?_
  refine gK_hcount (σ := σ) (pc := 4) g dX8_undoCount_4 ?_
  exact hE _ _ _ hf dX8_undoCount_7 rfl
theorem cK_take {D : va_G} {t : Nat → ClassId} {aa : gx_AA} {l : Launch} {R : Room} {cc : ByteArray} {nL : Nat} {J : gx_J} {ad : Nat → Nat} {rs : va_W} {k n pc : Nat} {L : List (Nat × Value)} {rest : List Value} (g : gx_G D t (gx_E0 aa) l R cc RX8 nL J) {σ : CS} {q : (Int32 × HS)} {fr lo : Nat} (hC : gx_C D t (gx_E0 aa) l yX1_takeLatest cX1_takeLatest 2 (some (.object "CommandChain$Navy")) fr lo [.ref (ad 48)] (rC (fun p => ad (p + 48)) t σ.2.2.2.2.2.2.1 ++ ([kc0 ad σ.2.2.2.2.2.2.2] ++ (nC (fun p => ad (p + 1)) t σ.1 ++ (nC (fun p => ad (p + 15)) t σ.2.1 ++ (nC (fun p => ad (p + 29)) t σ.2.2.1 ++ (sC aa (fun p => ad (p + 43)) t (σ.2.2.2.1, σ.2.2.2.2.1) ++ (xC (fun p => ad (p + 46)) t σ.2.2.2.2.2.1 ++ rs))))))) (rC (fun p => ad (p + 48)) t q.2 ++ ([kc0 ad σ.2.2.2.2.2.2.2] ++ (nC (fun p => ad (p + 1)) t σ.1 ++ (nC (fun p => ad (p + 15)) t σ.2.1 ++ (nC (fun p => ad (p + 29)) t σ.2.2.1 ++ (sC aa (fun p => ad (p + 43)) t (σ.2.2.2.1, σ.2.2.2.2.1) ++ (xC (fun p => ad (p + 46)) t σ.2.2.2.2.2.1 ++ rs))))))) (some (gx_hv (fun p => ad (p + 48)) q.1))) (hR : fr + 1 ≤ R.frames ∧ 8 + (2 + 11) + lo ≤ R.locals) (hkn : k ≤ R.cells ∧ n ≤ R.slots) (hcat : (rest.map fun v => v.category).sum ≤ 8) (hd : decode cc pc = .ok (.invokevirtual 292, 3)) (kk : J k n (kW aa ad t (σ.1, (σ.2.1, (σ.2.2.1, (σ.2.2.2.1, (σ.2.2.2.2.1, (σ.2.2.2.2.2.1, (q.2, σ.2.2.2.2.2.2.2))))))) rs) (pc + 3) L (gx_hv (fun p => ad (p + 48)) q.1 :: rest)) : J k n (kW aa ad t σ rs) pc L (.ref (ad 48) :: rest) := j_callVa (na := 0) (As := []) (q0 := 48) (ci := 3) g hC q_i_X1_takeLatest q_s_X1_takeLatest rfl rfl rfl q_c_X1_takeLatest q_l_X8_292 q_n_X1 (by decide +kernel) rfl hR hkn hcat (pb6 ([kc0 ad σ.2.2.2.2.2.2.2]) (nC (fun p => ad (p + 1)) t σ.1) (nC (fun p => ad (p + 15)) t σ.2.1) (nC (fun p => ad (p + 29)) t σ.2.2.1) (sC aa (fun p => ad (p + 43)) t (σ.2.2.2.1, σ.2.2.2.2.1)) (xC (fun p => ad (p + 46)) t σ.2.2.2.2.2.1) (rC (fun p => ad (p + 48)) t σ.2.2.2.2.2.2.1) rs) ((pb6 ([kc0 ad σ.2.2.2.2.2.2.2]) (nC (fun p => ad (p + 1)) t σ.1) (nC (fun p => ad (p + 15)) t σ.2.1) (nC (fun p => ad (p + 29)) t σ.2.2.1) (sC aa (fun p => ad (p + 43)) t (σ.2.2.2.1, σ.2.2.2.2.1)) (xC (fun p => ad (p + 46)) t σ.2.2.2.2.2.1) (rC (fun p => ad (p + 48)) t q.2) rs)).symm hd kk rfl
theorem cK_undo {D : va_G} {t : Nat → ClassId} {aa : gx_AA} {l : Launch} {R : Room} {cc : ByteArray} {nL : Nat} {J : gx_J} {ad : Nat → Nat} {rs : va_W} {k n pc : Nat} {L : List (Nat × Value)} {rest : List Value} (g : gx_G D t (gx_E0 aa) l R cc RX8 nL J) {σ : CS} {i : Int32} (hi : gx_in i 8) {q : NS × NS} {fr lo : Nat} (hC : gx_C D t (gx_E0 aa) l yX2_copyFrom cX2_copyFrom 2 none fr lo [.ref (ad 1), .ref (ad (2 + 14 * i.toNatClampNeg + 48))] (nC (fun p => ad (p + 1)) t σ.1 ++ (nC (fun p => ad (2 + 14 * i.toNatClampNeg + p + 48)) t (σ.2.2.2.2.2.2.1.2 i.toNatClampNeg) ++ (hR (fun p => ad (p + 48)) t σ.2.2.2.2.2.2.1 i.toNatClampNeg ++ ([kc0 ad σ.2.2.2.2.2.2.2] ++ (nC (fun p => ad (p + 15)) t σ.2.1 ++ (nC (fun p => ad (p + 29)) t σ.2.2.1 ++ (sC aa (fun p => ad (p + 43)) t (σ.2.2.2.1, σ.2.2.2.2.1) ++ (xC (fun p => ad (p + 46)) t σ.2.2.2.2.2.1 ++ rs)))))))) (nC (fun p => ad (p + 1)) t q.1 ++ (nC (fun p => ad (2 + 14 * i.toNatClampNeg + p + 48)) t q.2 ++ (hR (fun p => ad (p + 48)) t σ.2.2.2.2.2.2.1 i.toNatClampNeg ++ ([kc0 ad σ.2.2.2.2.2.2.2] ++ (nC (fun p => ad (p + 15)) t σ.2.1 ++ (nC (fun p => ad (p + 29)) t σ.2.2.1 ++ (sC aa (fun p => ad (p + 43)) t (σ.2.2.2.1, σ.2.2.2.2.1) ++ (xC (fun p => ad (p + 46)) t σ.2.2.2.2.2.1 ++ rs)))))))) none) (hR9 : fr + 1 ≤ R.frames ∧ 8 + (2 + 11) + lo ≤ R.locals) (hkn : k ≤ R.cells ∧ n ≤ R.slots) (hcat : (rest.map fun v => v.category).sum ≤ 8) (hd : decode cc pc = .ok (.invokevirtual 54, 3)) (kk : J k n (kW aa ad t (q.1, (σ.2.1, (σ.2.2.1, (σ.2.2.2.1, (σ.2.2.2.2.1, (σ.2.2.2.2.2.1, ((hs_up σ.2.2.2.2.2.2.1 i.toNatClampNeg q.2), σ.2.2.2.2.2.2.2))))))) rs) (pc + 3) L rest) : J k n (kW aa ad t σ rs) pc L (.ref (ad (2 + 14 * i.toNatClampNeg + 48)) :: .ref (ad 1) :: rest) := by
  have hj := (gx_in_lt hi (by decide)).2.2
  have hp : (kW aa ad t σ rs).Perm (nC (fun p => ad (p + 1)) t σ.1 ++ (nC (fun p => ad (2 + 14 * i.toNatClampNeg + p + 48)) t (σ.2.2.2.2.2.2.1.2 i.toNatClampNeg) ++ (hR (fun p => ad (p + 48)) t σ.2.2.2.2.2.2.1 i.toNatClampNeg ++ ([kc0 ad σ.2.2.2.2.2.2.2] ++ (nC (fun p => ad (p + 15)) t σ.2.1 ++ (nC (fun p => ad (p + 29)) t σ.2.2.1 ++ (sC aa (fun p => ad (p + 43)) t (σ.2.2.2.1, σ.2.2.2.2.1) ++ (xC (fun p => ad (p + 46)) t σ.2.2.2.2.2.1 ++ rs)))))))) := (((((pb1 ([kc0 ad σ.2.2.2.2.2.2.2]) (nC (fun p => ad (p + 1)) t σ.1) (nC (fun p => ad (p + 15)) t σ.2.1 ++ (nC (fun p => ad (p + 29)) t σ.2.2.1 ++ (sC aa (fun p => ad (p + 43)) t (σ.2.2.2.1, σ.2.2.2.2.1) ++ (xC (fun p => ad (p + 46)) t σ.2.2.2.2.2.1 ++ (rC (fun p => ad (p + 48)) t σ.2.2.2.2.2.2.1 ++ rs))))))).trans (List.Perm.append_left _ (pb5 ([kc0 ad σ.2.2.2.2.2.2.2]) (nC (fun p => ad (p + 15)) t σ.2.1) (nC (fun p => ad (p + 29)) t σ.2.2.1) (sC aa (fun p => ad (p + 43)) t (σ.2.2.2.1, σ.2.2.2.2.1)) (xC (fun p => ad (p + 46)) t σ.2.2.2.2.2.1) (rC (fun p => ad (p + 48)) t σ.2.2.2.2.2.2.1) rs)))).trans (List.Perm.append_left _ (pm_hj (fun p => ad (p + 48)) t σ.2.2.2.2.2.2.1 ([kc0 ad σ.2.2.2.2.2.2.2] ++ (nC (fun p => ad (p + 15)) t σ.2.1 ++ (nC (fun p => ad (p + 29)) t σ.2.2.1 ++ (sC aa (fun p => ad (p + 43)) t (σ.2.2.2.1, σ.2.2.2.2.1) ++ (xC (fun p => ad (p + 46)) t σ.2.2.2.2.2.1 ++ rs))))) hj)))
  have hp2 : (kW aa ad t (q.1, (σ.2.1, (σ.2.2.1, (σ.2.2.2.1, (σ.2.2.2.2.1, (σ.2.2.2.2.2.1, ((hs_up σ.2.2.2.2.2.2.1 i.toNatClampNeg q.2), σ.2.2.2.2.2.2.2))))))) rs).Perm (nC (fun p => ad (p + 1)) t q.1 ++ (nC (fun p => ad (2 + 14 * i.toNatClampNeg + p + 48)) t q.2 ++ (hR (fun p => ad (p + 48)) t σ.2.2.2.2.2.2.1 i.toNatClampNeg ++ ([kc0 ad σ.2.2.2.2.2.2.2] ++ (nC (fun p => ad (p + 15)) t σ.2.1 ++ (nC (fun p => ad (p + 29)) t σ.2.2.1 ++ (sC aa (fun p => ad (p + 43)) t (σ.2.2.2.1, σ.2.2.2.2.1) ++ (xC (fun p => ad (p + 46)) t σ.2.2.2.2.2.1 ++ rs)))))))) := by
    have h := (((((pb1 ([kc0 ad σ.2.2.2.2.2.2.2]) (nC (fun p => ad (p + 1)) t q.1) (nC (fun p => ad (p + 15)) t σ.2.1 ++ (nC (fun p => ad (p + 29)) t σ.2.2.1 ++ (sC aa (fun p => ad (p + 43)) t (σ.2.2.2.1, σ.2.2.2.2.1) ++ (xC (fun p => ad (p + 46)) t σ.2.2.2.2.2.1 ++ (rC (fun p => ad (p + 48)) t (hs_up σ.2.2.2.2.2.2.1 i.toNatClampNeg q.2) ++ rs))))))).trans (List.Perm.append_left _ (pb5 ([kc0 ad σ.2.2.2.2.2.2.2]) (nC (fun p => ad (p + 15)) t σ.2.1) (nC (fun p => ad (p + 29)) t σ.2.2.1) (sC aa (fun p => ad (p + 43)) t (σ.2.2.2.1, σ.2.2.2.2.1)) (xC (fun p => ad (p + 46)) t σ.2.2.2.2.2.1) (rC (fun p => ad (p + 48)) t (hs_up σ.2.2.2.2.2.2.1 i.toNatClampNeg q.2)) rs)))).trans (List.Perm.append_left _ (pm_hj (fun p => ad (p + 48)) t (hs_up σ.2.2.2.2.2.2.1 i.toNatClampNeg q.2) ([kc0 ad σ.2.2.2.2.2.2.2] ++ (nC (fun p => ad (p + 15)) t σ.2.1 ++ (nC (fun p => ad (p + 29)) t σ.2.2.1 ++ (sC aa (fun p => ad (p + 43)) t (σ.2.2.2.1, σ.2.2.2.2.1) ++ (xC (fun p => ad (p + 46)) t σ.2.2.2.2.2.1 ++ rs))))) hj)))
    rw [hs_up_at, hR_up] at h
    exact h
  exact j_callVv (na := 1) (As := [.ref (ad (2 + 14 * i.toNatClampNeg + 48))]) (q0 := 1) (ci := 4) g hC q_i_X2_copyFrom q_s_X2_copyFrom rfl rfl rfl q_c_X2_copyFrom q_l_X8_54 q_n_X2 (by decide +kernel) rfl hR9 hkn hcat hp hp2.symm hd kk rfl
set_option maxRecDepth 100000 in
set_option maxHeartbeats 4000000 in
theorem cX8_undo_ {D : va_G} {t : Nat → ClassId} {aa : gx_AA} {l : Launch} {ad : Nat → Nat} {rs : va_W} {σ : CS} {q : (Int32 × CS)} (hf : fX8_undo σ = some q) : gx_C D t (gx_E0 aa) l yX8_undo cX8_undo 2 (some .int) 3 83 [.ref (ad 0)] (kW aa ad t σ rs) (kW aa ad t q.2 rs) (some (.int q.1)) := by
  refine gx_intro_i (by decide) (Nat.le_of_ble_eq_true rfl) (fun J g hE0 => ?_)
  have hE : ∀ (v : Int32) (σ : CS) (pc : Nat) (L : List (Nat × Value)), some (v, σ) = some q → decode cX8_undo pc = .ok (.ireturn, 1) → narrow .int (.int v) = .int v → J 0 0 (kW aa ad t σ rs) pc L [.int v] := fun v σ pc L h h1 h2 => by cases h; exact hE0 pc L h1 h2
  unfold fX8_undo at hf
  show J 0 0 (kW aa ad t σ rs) 0 [(0, .ref (ad 0))] []
  refine j_aload_n (pc := 0) g 0 dX8_undo_0 rfl ?_
  refine gK_X8_0_3 (σ := σ) (pc := 1) g dX8_undo_1 ?_
  obtain ⟨r4, h_4, hf⟩ := gx_bs hf
  refine cK_take (σ := σ) (pc := 4) g (cX1_takeLatest_ (ad := (fun p => ad (p + 48))) h_4) ⟨Nat.le_of_ble_eq_true rfl, Nat.le_of_ble_eq_true rfl⟩ ⟨Nat.zero_le _, Nat.zero_le _⟩ (Nat.le_of_ble_eq_true rfl) dX8_undo_4 ?_
  refine j_astore_e_n (L' := [(1, gx_hv (fun p => ad (p + 48)) r4.1), (0, .ref (ad 0))]) (pc := 7) g (gx_hv_or _ _) dX8_undo_7 rfl (Nat.le_of_ble_eq_true rfl) rfl ?_
  refine j_load_e_n (pc := 8) g (gx_hv_or _ _) 0 dX8_undo_8 rfl ?_
  by_cases c_9 : r4.1 = -1
  · have hf := gx_it c_9 hf
    have hv : gx_hv (fun p => ad (p + 48)) r4.1 = .null := if_pos c_9
    rw [hv]
    refine j_ifnonnullN (pc := 9) g dX8_undo_9 ?_
    cases hf
  · have hf := gx_if c_9 hf
    obtain ⟨h_9, hf⟩ := gx_ck hf
    have hv : gx_hv (fun p => ad (p + 48)) r4.1 = .ref (ad (2 + 14 * r4.1.toNatClampNeg + 48)) := gx_hv_r h_9
    rw [hv]
    refine j_ifnonnull (tgt := 23) (pc := 9) g dX8_undo_9 (by decide) ?_
    refine j_aload_n (pc := 23) g 1 dX8_undo_23 rfl ?_
    refine gK_X8_0_0 (σ := (σ.1, (σ.2.1, (σ.2.2.1, (σ.2.2.2.1, (σ.2.2.2.2.1, (σ.2.2.2.2.2.1, (r4.2, σ.2.2.2.2.2.2.2)))))))) (pc := 24) g dX8_undo_24 ?_
    refine j_aload_n (pc := 27) g 0 dX8_undo_27 rfl ?_
    obtain ⟨r28, h_28, hf⟩ := gx_bs hf
    refine cK_undo (σ := (σ.1, (σ.2.1, (σ.2.2.1, (σ.2.2.2.1, (σ.2.2.2.2.1, (σ.2.2.2.2.2.1, (r4.2, σ.2.2.2.2.2.2.2)))))))) (pc := 28) g h_9 (cX2_copyFrom_ (ad := (fun p => ad (p + 1))) (bd := fun p => ad (2 + 14 * r4.1.toNatClampNeg + p + 48)) h_28) ⟨Nat.le_of_ble_eq_true rfl, Nat.le_of_ble_eq_true rfl⟩ ⟨Nat.zero_le _, Nat.zero_le _⟩ (Nat.le_of_ble_eq_true rfl) dX8_undo_28 ?_
    refine j_aload_n (pc := 31) g 1 dX8_undo_31 rfl ?_
    refine gK_X8_0_3 (σ := (r28.1, (σ.2.1, (σ.2.2.1, (σ.2.2.2.1, (σ.2.2.2.2.1, (σ.2.2.2.2.2.1, ((hs_up r4.2 r4.1.toNatClampNeg r28.2), σ.2.2.2.2.2.2.2)))))))) (pc := 32) g dX8_undo_32 ?_
    refine gK_hcount (σ := (r28.1, (σ.2.1, (σ.2.2.1, (σ.2.2.2.1, (σ.2.2.2.2.1, (σ.2.2.2.2.2.1, ((hs_up r4.2 r4.1.toNatClampNeg r28.2), σ.2.2.2.2.2.2.2)))))))) (pc := 35) g dX8_undo_35 ?_
    exact hE _ _ _ _ hf dX8_undo_38 rfl
theorem gK_X8_0_2 {D : va_G} {t : Nat → ClassId} {aa : gx_AA} {l : Launch} {R : Room} {cc : ByteArray} {nL : Nat} {J : gx_J} {ad : Nat → Nat} {rs : va_W} {k n pc : Nat} {L : List (Nat × Value)} {st : List Value} (g : gx_G D t (gx_E0 aa) l R cc RX8 nL J) {σ : CS} (hd : decode cc pc = .ok (.getfield 19, 3)) (kk : J k n (kW aa ad t σ rs) (pc + 3) L (.ref (ad 29) :: st)) : J k n (kW aa ad t σ rs) pc L (.ref (ad 0) :: st) := j_get g in_X8 0 rfl rfl 2 (by decide) q_f_X8_19 rfl rfl hd kk
theorem cK_X8_X2_copyFrom_9_1 {D : va_G} {t : Nat → ClassId} {aa : gx_AA} {l : Launch} {R : Room} {cc : ByteArray} {nL : Nat} {J : gx_J} {ad : Nat → Nat} {rs : va_W} {k n pc : Nat} {L : List (Nat × Value)} {rest : List Value} (g : gx_G D t (gx_E0 aa) l R cc RX8 nL J) {σ : CS} {q : (NS × NS)} {fr lo : Nat} (hC : gx_C D t (gx_E0 aa) l yX2_copyFrom cX2_copyFrom 2 none fr lo [.ref (ad 29), .ref (ad 1)] (nC (fun p => ad (p + 29)) t σ.2.2.1 ++ (nC (fun p => ad (p + 1)) t σ.1 ++ ([kc0 ad σ.2.2.2.2.2.2.2] ++ (nC (fun p => ad (p + 15)) t σ.2.1 ++ (sC aa (fun p => ad (p + 43)) t (σ.2.2.2.1, σ.2.2.2.2.1) ++ (xC (fun p => ad (p + 46)) t σ.2.2.2.2.2.1 ++ (rC (fun p => ad (p + 48)) t σ.2.2.2.2.2.2.1 ++ rs))))))) (nC (fun p => ad (p + 29)) t q.1 ++ (nC (fun p => ad (p + 1)) t q.2 ++ ([kc0 ad σ.2.2.2.2.2.2.2] ++ (nC (fun p => ad (p + 15)) t σ.2.1 ++ (sC aa (fun p => ad (p + 43)) t (σ.2.2.2.1, σ.2.2.2.2.1) ++ (xC (fun p => ad (p + 46)) t σ.2.2.2.2.2.1 ++ (rC (fun p => ad (p + 48)) t σ.2.2.2.2.2.2.1 ++ rs))))))) none) (hR : fr + 1 ≤ R.frames ∧ 8 + (2 + 11) + lo ≤ R.locals) (hkn : k ≤ R.cells ∧ n ≤ R.slots) (hcat : (rest.map fun v => v.category).sum ≤ 8) (hd : decode cc pc = .ok (.invokevirtual 54, 3)) (kk : J k n (kW aa ad t (q.2, (σ.2.1, (q.1, σ.2.2.2))) rs) (pc + 3) L (rest)) : J k n (kW aa ad t σ rs) pc L (.ref (ad 1) :: .ref (ad 29) :: rest) := j_callVv (na := 1) (As := [.ref (ad 1)]) (q0 := 29) (ci := 4) g hC q_i_X2_copyFrom q_s_X2_copyFrom rfl rfl rfl q_c_X2_copyFrom q_l_X8_54 q_n_X2 (by decide +kernel) rfl hR hkn hcat (((pb3 ([kc0 ad σ.2.2.2.2.2.2.2]) (nC (fun p => ad (p + 1)) t σ.1) (nC (fun p => ad (p + 15)) t σ.2.1) (nC (fun p => ad (p + 29)) t σ.2.2.1) (sC aa (fun p => ad (p + 43)) t (σ.2.2.2.1, σ.2.2.2.2.1) ++ (xC (fun p => ad (p + 46)) t σ.2.2.2.2.2.1 ++ (rC (fun p => ad (p + 48)) t σ.2.2.2.2.2.2.1 ++ rs))))).trans (List.Perm.append_left _ (pb1 ([kc0 ad σ.2.2.2.2.2.2.2]) (nC (fun p => ad (p + 1)) t σ.1) (nC (fun p => ad (p + 15)) t σ.2.1 ++ (sC aa (fun p => ad (p + 43)) t (σ.2.2.2.1, σ.2.2.2.2.1) ++ (xC (fun p => ad (p + 46)) t σ.2.2.2.2.2.1 ++ (rC (fun p => ad (p + 48)) t σ.2.2.2.2.2.2.1 ++ rs))))))) ((((pb3 ([kc0 ad σ.2.2.2.2.2.2.2]) (nC (fun p => ad (p + 1)) t q.2) (nC (fun p => ad (p + 15)) t σ.2.1) (nC (fun p => ad (p + 29)) t q.1) (sC aa (fun p => ad (p + 43)) t (σ.2.2.2.1, σ.2.2.2.2.1) ++ (xC (fun p => ad (p + 46)) t σ.2.2.2.2.2.1 ++ (rC (fun p => ad (p + 48)) t σ.2.2.2.2.2.2.1 ++ rs))))).trans (List.Perm.append_left _ (pb1 ([kc0 ad σ.2.2.2.2.2.2.2]) (nC (fun p => ad (p + 1)) t q.2) (nC (fun p => ad (p + 15)) t σ.2.1 ++ (sC aa (fun p => ad (p + 43)) t (σ.2.2.2.1, σ.2.2.2.2.1) ++ (xC (fun p => ad (p + 46)) t σ.2.2.2.2.2.1 ++ (rC (fun p => ad (p + 48)) t σ.2.2.2.2.2.2.1 ++ rs)))))))).symm hd kk rfl
theorem pK_X8_0_6 {D : va_G} {t : Nat → ClassId} {aa : gx_AA} {l : Launch} {R : Room} {cc : ByteArray} {nL : Nat} {J : gx_J} {ad : Nat → Nat} {rs : va_W} {k n pc : Nat} {L : List (Nat × Value)} {st : List Value} (g : gx_G D t (gx_E0 aa) l R cc RX8 nL J) {σ : CS} {v : Int32} (hn : v = 0 ∨ v = 1) (hd : decode cc pc = .ok (.putfield 43, 3)) (kk : J k n (kW aa ad t (σ.1, (σ.2.1, (σ.2.2.1, (σ.2.2.2.1, (σ.2.2.2.2.1, (σ.2.2.2.2.2.1, (σ.2.2.2.2.2.2.1, os_sf σ.2.2.2.2.2.2.2 6 v))))))) rs) (pc + 3) L st) : J k n (kW aa ad t σ rs) pc L (.int v :: .ref (ad 0) :: st) := j_put (w' := kW aa ad t (σ.1, (σ.2.1, (σ.2.2.1, (σ.2.2.2.1, (σ.2.2.2.2.1, (σ.2.2.2.2.2.1, (σ.2.2.2.2.2.2.1, os_sf σ.2.2.2.2.2.2.2 6 v))))))) rs) g in_X8 0 rfl rfl 6 (by decide) q_f_X8_43 rfl tyX8 tyX8_ok nmX8 rfl (ty := .boolean) (by decide +kernel) (gx_narZ hn) (gx_fitZ hn) (Nat.le_of_ble_eq_true rfl) rfl hd kk
theorem gK_X8_9_0 {D : va_G} {t : Nat → ClassId} {aa : gx_AA} {l : Launch} {R : Room} {cc : ByteArray} {nL : Nat} {J : gx_J} {ad : Nat → Nat} {rs : va_W} {k n pc : Nat} {L : List (Nat × Value)} {st : List Value} (g : gx_G D t (gx_E0 aa) l R cc RX8 nL J) {σ : CS} (hd : decode cc pc = .ok (.getfield 97, 3)) (kk : J k n (kW aa ad t σ rs) (pc + 3) L (.ref (ad 30) :: st)) : J k n (kW aa ad t σ rs) pc L (.ref (ad 29) :: st) := j_get g in_X2 29 rfl rfl 0 (by decide) q_f_X8_97 rfl rfl hd kk
theorem cK_X8_X3_countServing_10 {D : va_G} {t : Nat → ClassId} {aa : gx_AA} {l : Launch} {R : Room} {cc : ByteArray} {nL : Nat} {J : gx_J} {ad : Nat → Nat} {rs : va_W} {k n pc : Nat} {L : List (Nat × Value)} {rest : List Value} (g : gx_G D t (gx_E0 aa) l R cc RX8 nL J) {σ : CS} {q : Int32} {fr lo : Nat} (hC : gx_C D t (gx_E0 aa) l yX3_countServing cX3_countServing 3 (some .int) fr lo [.ref (ad 30)] (oC (fun p => ad (p + 30)) t σ.2.2.1.2.1 ++ (((ad (0 + 29), .inr (4, [.ref (ad (1 + 29)), .ref (ad (7 + 29)), .ref (ad (11 + 29)), .int (os_f σ.2.2.1.1 3), .int (os_f σ.2.2.1.1 4), .int (os_f σ.2.2.1.1 5), .int (os_f σ.2.2.1.1 6)])) :: (dC (fun p => ad (p + 36)) t σ.2.2.1.2.2.1 ++ bC (fun p => ad (p + 40)) t σ.2.2.1.2.2.2)) ++ ([kc0 ad σ.2.2.2.2.2.2.2] ++ (nC (fun p => ad (p + 1)) t σ.1 ++ (nC (fun p => ad (p + 15)) t σ.2.1 ++ (sC aa (fun p => ad (p + 43)) t (σ.2.2.2.1, σ.2.2.2.2.1) ++ (xC (fun p => ad (p + 46)) t σ.2.2.2.2.2.1 ++ (rC (fun p => ad (p + 48)) t σ.2.2.2.2.2.2.1 ++ rs)))))))) (oC (fun p => ad (p + 30)) t σ.2.2.1.2.1 ++ (((ad (0 + 29), .inr (4, [.ref (ad (1 + 29)), .ref (ad (7 + 29)), .ref (ad (11 + 29)), .int (os_f σ.2.2.1.1 3), .int (os_f σ.2.2.1.1 4), .int (os_f σ.2.2.1.1 5), .int (os_f σ.2.2.1.1 6)])) :: (dC (fun p => ad (p + 36)) t σ.2.2.1.2.2.1 ++ bC (fun p => ad (p + 40)) t σ.2.2.1.2.2.2)) ++ ([kc0 ad σ.2.2.2.2.2.2.2] ++ (nC (fun p => ad (p + 1)) t σ.1 ++ (nC (fun p => ad (p + 15)) t σ.2.1 ++ (sC aa (fun p => ad (p + 43)) t (σ.2.2.2.1, σ.2.2.2.2.1) ++ (xC (fun p => ad (p + 46)) t σ.2.2.2.2.2.1 ++ (rC (fun p => ad (p + 48)) t σ.2.2.2.2.2.2.1 ++ rs)))))))) (some (.int q))) (hR : fr + 1 ≤ R.frames ∧ 8 + (3 + 11) + lo ≤ R.locals) (hkn : k ≤ R.cells ∧ n ≤ R.slots) (hcat : (rest.map fun v => v.category).sum ≤ 8) (hd : decode cc pc = .ok (.invokevirtual 101, 3)) (kk : J k n (kW aa ad t σ rs) (pc + 3) L (.int q :: rest)) : J k n (kW aa ad t σ rs) pc L (.ref (ad 30) :: rest) := j_callVi (na := 0) (As := []) (q0 := 30) (ci := 5) g hC q_i_X3_countServing q_s_X3_countServing rfl rfl rfl q_c_X3_countServing q_l_X8_101 q_n_X3 (by decide +kernel) rfl hR hkn hcat (((pb3 ([kc0 ad σ.2.2.2.2.2.2.2]) (nC (fun p => ad (p + 1)) t σ.1) (nC (fun p => ad (p + 15)) t σ.2.1) (nC (fun p => ad (p + 29)) t σ.2.2.1) (sC aa (fun p => ad (p + 43)) t (σ.2.2.2.1, σ.2.2.2.2.1) ++ (xC (fun p => ad (p + 46)) t σ.2.2.2.2.2.1 ++ (rC (fun p => ad (p + 48)) t σ.2.2.2.2.2.2.1 ++ rs))))).trans (pm_n1 (fun p => ad (p + 29)) t σ.2.2.1 ([kc0 ad σ.2.2.2.2.2.2.2] ++ (nC (fun p => ad (p + 1)) t σ.1 ++ (nC (fun p => ad (p + 15)) t σ.2.1 ++ (sC aa (fun p => ad (p + 43)) t (σ.2.2.2.1, σ.2.2.2.2.1) ++ (xC (fun p => ad (p + 46)) t σ.2.2.2.2.2.1 ++ (rC (fun p => ad (p + 48)) t σ.2.2.2.2.2.2.1 ++ rs)))))))) ((((pb3 ([kc0 ad σ.2.2.2.2.2.2.2]) (nC (fun p => ad (p + 1)) t σ.1) (nC (fun p => ad (p + 15)) t σ.2.1) (nC (fun p => ad (p + 29)) t σ.2.2.1) (sC aa (fun p => ad (p + 43)) t (σ.2.2.2.1, σ.2.2.2.2.1) ++ (xC (fun p => ad (p + 46)) t σ.2.2.2.2.2.1 ++ (rC (fun p => ad (p + 48)) t σ.2.2.2.2.2.2.1 ++ rs))))).trans (pm_n1 (fun p => ad (p + 29)) t σ.2.2.1 ([kc0 ad σ.2.2.2.2.2.2.2] ++ (nC (fun p => ad (p + 1)) t σ.1 ++ (nC (fun p => ad (p + 15)) t σ.2.1 ++ (sC aa (fun p => ad (p + 43)) t (σ.2.2.2.1, σ.2.2.2.2.1) ++ (xC (fun p => ad (p + 46)) t σ.2.2.2.2.2.1 ++ (rC (fun p => ad (p + 48)) t σ.2.2.2.2.2.2.1 ++ rs))))))))).symm hd kk rfl
set_option maxRecDepth 100000 in
set_option maxHeartbeats 4000000 in
theorem cX8_save_ {D : va_G} {t : Nat → ClassId} {aa : gx_AA} {l : Launch} {ad : Nat → Nat} {rs : va_W} {σ : CS} {q : (Int32 × CS)} (hf : fX8_save σ = some q) : gx_C D t (gx_E0 aa) l yX8_save cX8_save 1 (some .int) 3 83 [.ref (ad 0)] (kW aa ad t σ rs) (kW aa ad t q.2 rs) (some (.int q.1)) := by
  refine gx_intro_i (by decide) (Nat.le_of_ble_eq_true rfl) (fun J g hE0 => ?_)
  have hE : ∀ (v : Int32) (σ : CS) (pc : Nat) (L : List (Nat × Value)), some (v, σ) = some q → decode cX8_save pc = .ok (.ireturn, 1) → narrow .int (.int v) = .int v → J 0 0 (kW aa ad t σ rs) pc L [.int v] := fun v σ pc L h h1 h2 => by cases h; exact hE0 pc L h1 h2
  unfold fX8_save at hf
  show J 0 0 (kW aa ad t σ rs) 0 [(0, .ref (ad 0))] []
  refine j_aload_n (pc := 0) g 0 dX8_save_0 rfl ?_
  refine gK_X8_0_2 (σ := σ) (pc := 1) g dX8_save_1 ?_
  refine j_aload_n (pc := 4) g 0 dX8_save_4 rfl ?_
  refine gK_X8_0_0 (σ := σ) (pc := 5) g dX8_save_5 ?_
  obtain ⟨r8, h_8, hf⟩ := gx_bs hf
  refine cK_X8_X2_copyFrom_9_1 (σ := σ) (pc := 8) g (cX2_copyFrom_ (ad := (fun p => ad (p + 29))) (bd := (fun p => ad (p + 1))) h_8) ⟨Nat.le_of_ble_eq_true rfl, Nat.le_of_ble_eq_true rfl⟩ ⟨Nat.zero_le _, Nat.zero_le _⟩ (Nat.le_of_ble_eq_true rfl) dX8_save_8 ?_
  refine j_aload_n (pc := 11) g 0 dX8_save_11 rfl ?_
  refine j_iconst (v := 1) (pc := 12) g dX8_save_12 (by decide) ?_
  obtain ⟨h_13, hf⟩ := gx_ck hf
  refine pK_X8_0_6 (σ := (r8.2, (σ.2.1, (r8.1, σ.2.2.2)))) (pc := 13) g h_13 dX8_save_13 ?_
  refine j_aload_n (pc := 16) g 0 dX8_save_16 rfl ?_
  refine gK_X8_0_2 (σ := (r8.2, (σ.2.1, (r8.1, (σ.2.2.2.1, (σ.2.2.2.2.1, (σ.2.2.2.2.2.1, (σ.2.2.2.2.2.2.1, os_sf σ.2.2.2.2.2.2.2 6 (1 : Int32))))))))) (pc := 17) g dX8_save_17 ?_
  refine gK_X8_9_0 (σ := (r8.2, (σ.2.1, (r8.1, (σ.2.2.2.1, (σ.2.2.2.2.1, (σ.2.2.2.2.2.1, (σ.2.2.2.2.2.2.1, os_sf σ.2.2.2.2.2.2.2 6 (1 : Int32))))))))) (pc := 20) g dX8_save_20 ?_
  obtain ⟨r23, h_23, hf⟩ := gx_bs hf
  refine cK_X8_X3_countServing_10 (σ := (r8.2, (σ.2.1, (r8.1, (σ.2.2.2.1, (σ.2.2.2.2.1, (σ.2.2.2.2.2.1, (σ.2.2.2.2.2.2.1, os_sf σ.2.2.2.2.2.2.2 6 (1 : Int32))))))))) (pc := 23) g (cX3_countServing_ (ad := (fun p => ad (p + 30))) h_23) ⟨Nat.le_of_ble_eq_true rfl, Nat.le_of_ble_eq_true rfl⟩ ⟨Nat.zero_le _, Nat.zero_le _⟩ (Nat.le_of_ble_eq_true rfl) dX8_save_23 ?_
  exact hE _ _ _ _ hf dX8_save_26 rfl
theorem gK_X8_0_6 {D : va_G} {t : Nat → ClassId} {aa : gx_AA} {l : Launch} {R : Room} {cc : ByteArray} {nL : Nat} {J : gx_J} {ad : Nat → Nat} {rs : va_W} {k n pc : Nat} {L : List (Nat × Value)} {st : List Value} (g : gx_G D t (gx_E0 aa) l R cc RX8 nL J) {σ : CS} (hd : decode cc pc = .ok (.getfield 43, 3)) (kk : J k n (kW aa ad t σ rs) (pc + 3) L (.int (os_f σ.2.2.2.2.2.2.2 6) :: st)) : J k n (kW aa ad t σ rs) pc L (.ref (ad 0) :: st) := j_get g in_X8 0 rfl rfl 6 (by decide) q_f_X8_43 rfl rfl hd kk
theorem cK_X8_X2_copyFrom_1_9 {D : va_G} {t : Nat → ClassId} {aa : gx_AA} {l : Launch} {R : Room} {cc : ByteArray} {nL : Nat} {J : gx_J} {ad : Nat → Nat} {rs : va_W} {k n pc : Nat} {L : List (Nat × Value)} {rest : List Value} (g : gx_G D t (gx_E0 aa) l R cc RX8 nL J) {σ : CS} {q : (NS × NS)} {fr lo : Nat} (hC : gx_C D t (gx_E0 aa) l yX2_copyFrom cX2_copyFrom 2 none fr lo [.ref (ad 1), .ref (ad 29)] (nC (fun p => ad (p + 1)) t σ.1 ++ (nC (fun p => ad (p + 29)) t σ.2.2.1 ++ ([kc0 ad σ.2.2.2.2.2.2.2] ++ (nC (fun p => ad (p + 15)) t σ.2.1 ++ (sC aa (fun p => ad (p + 43)) t (σ.2.2.2.1, σ.2.2.2.2.1) ++ (xC (fun p => ad (p + 46)) t σ.2.2.2.2.2.1 ++ (rC (fun p => ad (p + 48)) t σ.2.2.2.2.2.2.1 ++ rs))))))) (nC (fun p => ad (p + 1)) t q.1 ++ (nC (fun p => ad (p + 29)) t q.2 ++ ([kc0 ad σ.2.2.2.2.2.2.2] ++ (nC (fun p => ad (p + 15)) t σ.2.1 ++ (sC aa (fun p => ad (p + 43)) t (σ.2.2.2.1, σ.2.2.2.2.1) ++ (xC (fun p => ad (p + 46)) t σ.2.2.2.2.2.1 ++ (rC (fun p => ad (p + 48)) t σ.2.2.2.2.2.2.1 ++ rs))))))) none) (hR : fr + 1 ≤ R.frames ∧ 8 + (2 + 11) + lo ≤ R.locals) (hkn : k ≤ R.cells ∧ n ≤ R.slots) (hcat : (rest.map fun v => v.category).sum ≤ 8) (hd : decode cc pc = .ok (.invokevirtual 54, 3)) (kk : J k n (kW aa ad t (q.1, (σ.2.1, (q.2, σ.2.2.2))) rs) (pc + 3) L (rest)) : J k n (kW aa ad t σ rs) pc L (.ref (ad 29) :: .ref (ad 1) :: rest) := j_callVv (na := 1) (As := [.ref (ad 29)]) (q0 := 1) (ci := 4) g hC q_i_X2_copyFrom q_s_X2_copyFrom rfl rfl rfl q_c_X2_copyFrom q_l_X8_54 q_n_X2 (by decide +kernel) rfl hR hkn hcat (((pb1 ([kc0 ad σ.2.2.2.2.2.2.2]) (nC (fun p => ad (p + 1)) t σ.1) (nC (fun p => ad (p + 15)) t σ.2.1 ++ (nC (fun p => ad (p + 29)) t σ.2.2.1 ++ (sC aa (fun p => ad (p + 43)) t (σ.2.2.2.1, σ.2.2.2.2.1) ++ (xC (fun p => ad (p + 46)) t σ.2.2.2.2.2.1 ++ (rC (fun p => ad (p + 48)) t σ.2.2.2.2.2.2.1 ++ rs))))))).trans (List.Perm.append_left _ (pb2 ([kc0 ad σ.2.2.2.2.2.2.2]) (nC (fun p => ad (p + 15)) t σ.2.1) (nC (fun p => ad (p + 29)) t σ.2.2.1) (sC aa (fun p => ad (p + 43)) t (σ.2.2.2.1, σ.2.2.2.2.1) ++ (xC (fun p => ad (p + 46)) t σ.2.2.2.2.2.1 ++ (rC (fun p => ad (p + 48)) t σ.2.2.2.2.2.2.1 ++ rs)))))) ((((pb1 ([kc0 ad σ.2.2.2.2.2.2.2]) (nC (fun p => ad (p + 1)) t q.1) (nC (fun p => ad (p + 15)) t σ.2.1 ++ (nC (fun p => ad (p + 29)) t q.2 ++ (sC aa (fun p => ad (p + 43)) t (σ.2.2.2.1, σ.2.2.2.2.1) ++ (xC (fun p => ad (p + 46)) t σ.2.2.2.2.2.1 ++ (rC (fun p => ad (p + 48)) t σ.2.2.2.2.2.2.1 ++ rs))))))).trans (List.Perm.append_left _ (pb2 ([kc0 ad σ.2.2.2.2.2.2.2]) (nC (fun p => ad (p + 15)) t σ.2.1) (nC (fun p => ad (p + 29)) t q.2) (sC aa (fun p => ad (p + 43)) t (σ.2.2.2.1, σ.2.2.2.2.1) ++ (xC (fun p => ad (p + 46)) t σ.2.2.2.2.2.1 ++ (rC (fun p => ad (p + 48)) t σ.2.2.2.2.2.2.1 ++ rs))))))).symm hd kk rfl
theorem cK_X8_X1_clear_16 {D : va_G} {t : Nat → ClassId} {aa : gx_AA} {l : Launch} {R : Room} {cc : ByteArray} {nL : Nat} {J : gx_J} {ad : Nat → Nat} {rs : va_W} {k n pc : Nat} {L : List (Nat × Value)} {rest : List Value} (g : gx_G D t (gx_E0 aa) l R cc RX8 nL J) {σ : CS} {q : HS} {fr lo : Nat} (hC : gx_C D t (gx_E0 aa) l yX1_clear cX1_clear 1 none fr lo [.ref (ad 48)] (rC (fun p => ad (p + 48)) t σ.2.2.2.2.2.2.1 ++ ([kc0 ad σ.2.2.2.2.2.2.2] ++ (nC (fun p => ad (p + 1)) t σ.1 ++ (nC (fun p => ad (p + 15)) t σ.2.1 ++ (nC (fun p => ad (p + 29)) t σ.2.2.1 ++ (sC aa (fun p => ad (p + 43)) t (σ.2.2.2.1, σ.2.2.2.2.1) ++ (xC (fun p => ad (p + 46)) t σ.2.2.2.2.2.1 ++ rs))))))) (rC (fun p => ad (p + 48)) t q ++ ([kc0 ad σ.2.2.2.2.2.2.2] ++ (nC (fun p => ad (p + 1)) t σ.1 ++ (nC (fun p => ad (p + 15)) t σ.2.1 ++ (nC (fun p => ad (p + 29)) t σ.2.2.1 ++ (sC aa (fun p => ad (p + 43)) t (σ.2.2.2.1, σ.2.2.2.2.1) ++ (xC (fun p => ad (p + 46)) t σ.2.2.2.2.2.1 ++ rs))))))) none) (hR : fr + 1 ≤ R.frames ∧ 8 + (1 + 11) + lo ≤ R.locals) (hkn : k ≤ R.cells ∧ n ≤ R.slots) (hcat : (rest.map fun v => v.category).sum ≤ 8) (hd : decode cc pc = .ok (.invokevirtual 300, 3)) (kk : J k n (kW aa ad t (σ.1, (σ.2.1, (σ.2.2.1, (σ.2.2.2.1, (σ.2.2.2.2.1, (σ.2.2.2.2.2.1, (q, σ.2.2.2.2.2.2.2))))))) rs) (pc + 3) L (rest)) : J k n (kW aa ad t σ rs) pc L (.ref (ad 48) :: rest) := j_callVv (na := 0) (As := []) (q0 := 48) (ci := 3) g hC q_i_X1_clear q_s_X1_clear rfl rfl rfl q_c_X1_clear q_l_X8_300 q_n_X1 (by decide +kernel) rfl hR hkn hcat (pb6 ([kc0 ad σ.2.2.2.2.2.2.2]) (nC (fun p => ad (p + 1)) t σ.1) (nC (fun p => ad (p + 15)) t σ.2.1) (nC (fun p => ad (p + 29)) t σ.2.2.1) (sC aa (fun p => ad (p + 43)) t (σ.2.2.2.1, σ.2.2.2.2.1)) (xC (fun p => ad (p + 46)) t σ.2.2.2.2.2.1) (rC (fun p => ad (p + 48)) t σ.2.2.2.2.2.2.1) rs) ((pb6 ([kc0 ad σ.2.2.2.2.2.2.2]) (nC (fun p => ad (p + 1)) t σ.1) (nC (fun p => ad (p + 15)) t σ.2.1) (nC (fun p => ad (p + 29)) t σ.2.2.1) (sC aa (fun p => ad (p + 43)) t (σ.2.2.2.1, σ.2.2.2.2.1)) (xC (fun p => ad (p + 46)) t σ.2.2.2.2.2.1) (rC (fun p => ad (p + 48)) t q) rs)).symm hd kk rfl
set_option maxRecDepth 100000 in
set_option maxHeartbeats 4000000 in
theorem cX8_restore_ {D : va_G} {t : Nat → ClassId} {aa : gx_AA} {l : Launch} {ad : Nat → Nat} {rs : va_W} {σ : CS} {q : (Int32 × CS)} (hf : fX8_restore σ = some q) : gx_C D t (gx_E0 aa) l yX8_restore cX8_restore 1 (some .int) 3 83 [.ref (ad 0)] (kW aa ad t σ rs) (kW aa ad t q.2 rs) (some (.int q.1)) := by
  refine gx_intro_i (by decide) (Nat.le_of_ble_eq_true rfl) (fun J g hE0 => ?_)
  have hE : ∀ (v : Int32) (σ : CS) (pc : Nat) (L : List (Nat × Value)), some (v, σ) = some q → decode cX8_restore pc = .ok (.ireturn, 1) → narrow .int (.int v) = .int v → J 0 0 (kW aa ad t σ rs) pc L [.int v] := fun v σ pc L h h1 h2 => by cases h; exact hE0 pc L h1 h2
  unfold fX8_restore at hf
  show J 0 0 (kW aa ad t σ rs) 0 [(0, .ref (ad 0))] []
  refine j_aload_n (pc := 0) g 0 dX8_restore_0 rfl ?_
  refine gK_X8_0_6 (σ := σ) (pc := 1) g dX8_restore_1 ?_
  refine j_if_ne (tgt := 18) (pc := 4) g dX8_restore_4 (by decide) (fun c_4 => ?_) (fun c_4 => ?_)
  · have hf := gx_if c_4 hf
    refine j_aload_n (pc := 18) g 0 dX8_restore_18 rfl ?_
    refine gK_X8_0_0 (σ := σ) (pc := 19) g dX8_restore_19 ?_
    refine j_aload_n (pc := 22) g 0 dX8_restore_22 rfl ?_
    refine gK_X8_0_2 (σ := σ) (pc := 23) g dX8_restore_23 ?_
    obtain ⟨r26, h_26, hf⟩ := gx_bs hf
    refine cK_X8_X2_copyFrom_1_9 (σ := σ) (pc := 26) g (cX2_copyFrom_ (ad := (fun p => ad (p + 1))) (bd := (fun p => ad (p + 29))) h_26) ⟨Nat.le_of_ble_eq_true rfl, Nat.le_of_ble_eq_true rfl⟩ ⟨Nat.zero_le _, Nat.zero_le _⟩ (Nat.le_of_ble_eq_true rfl) dX8_restore_26 ?_
    refine j_aload_n (pc := 29) g 0 dX8_restore_29 rfl ?_
    refine gK_X8_0_3 (σ := (r26.1, (σ.2.1, (r26.2, σ.2.2.2)))) (pc := 30) g dX8_restore_30 ?_
    obtain ⟨r33, h_33, hf⟩ := gx_bs hf
    refine cK_X8_X1_clear_16 (σ := (r26.1, (σ.2.1, (r26.2, σ.2.2.2)))) (pc := 33) g (cX1_clear_ (ad := (fun p => ad (p + 48))) h_33) ⟨Nat.le_of_ble_eq_true rfl, Nat.le_of_ble_eq_true rfl⟩ ⟨Nat.zero_le _, Nat.zero_le _⟩ (Nat.le_of_ble_eq_true rfl) dX8_restore_33 ?_
    refine j_aload_n (pc := 36) g 0 dX8_restore_36 rfl ?_
    refine gK_X8_0_0 (σ := (r26.1, (σ.2.1, (r26.2, (σ.2.2.2.1, (σ.2.2.2.2.1, (σ.2.2.2.2.2.1, (r33, σ.2.2.2.2.2.2.2)))))))) (pc := 37) g dX8_restore_37 ?_
    refine gK_X8_1_0 (σ := (r26.1, (σ.2.1, (r26.2, (σ.2.2.2.1, (σ.2.2.2.2.1, (σ.2.2.2.2.2.1, (r33, σ.2.2.2.2.2.2.2)))))))) (pc := 40) g dX8_restore_40 ?_
    obtain ⟨r43, h_43, hf⟩ := gx_bs hf
    refine cK_X8_X3_countServing_2 (σ := (r26.1, (σ.2.1, (r26.2, (σ.2.2.2.1, (σ.2.2.2.2.1, (σ.2.2.2.2.2.1, (r33, σ.2.2.2.2.2.2.2)))))))) (pc := 43) g (cX3_countServing_ (ad := (fun p => ad (p + 2))) h_43) ⟨Nat.le_of_ble_eq_true rfl, Nat.le_of_ble_eq_true rfl⟩ ⟨Nat.zero_le _, Nat.zero_le _⟩ (Nat.le_of_ble_eq_true rfl) dX8_restore_43 ?_
    exact hE _ _ _ _ hf dX8_restore_46 rfl
  · have hf := gx_it c_4 hf
    cases hf

set_option maxRecDepth 100000 in
set_option maxHeartbeats 4000000 in
theorem cX8_requireOfficer_ {D : va_G} {t : Nat → ClassId} {aa : gx_AA} {l : Launch} {ad : Nat → Nat} {rs : va_W} {σ : CS} {p1 : Int32} {q : CS} (hf : fX8_requireOfficer σ p1 = some q) : gx_C D t (gx_E0 aa) l yX8_requireOfficer cX8_requireOfficer 2 none 1 21 [.ref (ad 0), .int p1] (kW aa ad t σ rs) (kW aa ad t q rs) none := by
  refine gx_intro_v (by decide) (Nat.le_of_ble_eq_true rfl) (fun J g hE0 => ?_)
  have hE : ∀ (σ : CS) (pc : Nat) (L : List (Nat × Value)), some σ = some q → decode cX8_requireOfficer pc = .ok (.return_, 1) → J 0 0 (kW aa ad t σ rs) pc L [] := fun σ pc L h h1 => by cases h; exact hE0 pc L h1
  unfold fX8_requireOfficer at hf
  show J 0 0 (kW aa ad t σ rs) 0 [(0, .ref (ad 0)), (1, .int p1)] []
  refine j_aload_n (pc := 0) g 0 dX8_requireOfficer_0 rfl ?_
  refine gK_X8_0_0 (σ := σ) (pc := 1) g dX8_requireOfficer_1 ?_
  refine gK_X8_1_0 (σ := σ) (pc := 4) g dX8_requireOfficer_4 ?_
  refine j_iload_n (pc := 7) g 1 dX8_requireOfficer_7 rfl ?_
  obtain ⟨r8, h_8, hf⟩ := gx_bs hf
  refine cK_X8_X3_serves_2 (σ := σ) (pc := 8) g (cX3_serves_ (ad := (fun p => ad (p + 2))) h_8) ⟨Nat.le_of_ble_eq_true rfl, Nat.le_of_ble_eq_true rfl⟩ ⟨Nat.zero_le _, Nat.zero_le _⟩ (Nat.le_of_ble_eq_true rfl) dX8_requireOfficer_8 ?_
  refine j_if_ne (tgt := 25) (pc := 11) g dX8_requireOfficer_11 (by decide) (fun c_11 => ?_) (fun c_11 => ?_)
  · have hf := gx_if c_11 hf
    exact hE _ _ _ hf dX8_requireOfficer_25
  · have hf := gx_it c_11 hf
    cases hf

set_option maxRecDepth 100000 in
set_option maxHeartbeats 4000000 in
theorem cX8_requireOrder_ {D : va_G} {t : Nat → ClassId} {aa : gx_AA} {l : Launch} {ad : Nat → Nat} {rs : va_W} {σ : CS} {p1 : Int32} {q : CS} (hf : fX8_requireOrder σ p1 = some q) : gx_C D t (gx_E0 aa) l yX8_requireOrder cX8_requireOrder 2 none 0 0 [.ref (ad 0), .int p1] (kW aa ad t σ rs) (kW aa ad t q rs) none := by
  refine gx_intro_v (by decide) (Nat.le_of_ble_eq_true rfl) (fun J g hE0 => ?_)
  have hE : ∀ (σ : CS) (pc : Nat) (L : List (Nat × Value)), some σ = some q → decode cX8_requireOrder pc = .ok (.return_, 1) → J 0 0 (kW aa ad t σ rs) pc L [] := fun σ pc L h h1 => by cases h; exact hE0 pc L h1
  unfold fX8_requireOrder at hf
  show J 0 0 (kW aa ad t σ rs) 0 [(0, .ref (ad 0)), (1, .int p1)] []
  refine j_iload_n (pc := 0) g 1 dX8_requireOrder_0 rfl ?_
  refine j_if_lt (tgt := 18) (pc := 1) g dX8_requireOrder_1 (by decide) (fun c_1 => ?_) (fun c_1 => ?_)
  · have hf := gx_it c_1 hf
    cases hf
  · have hf := gx_if c_1 hf
    refine j_iload_n (pc := 4) g 1 dX8_requireOrder_4 rfl ?_
    refine j_aload_n (pc := 5) g 0 dX8_requireOrder_5 rfl ?_
    refine gK_X8_0_0 (σ := σ) (pc := 6) g dX8_requireOrder_6 ?_
    refine gK_X8_1_1 (σ := σ) (pc := 9) g dX8_requireOrder_9 ?_
    refine gK_X8_3_3 (σ := σ) (pc := 12) g dX8_requireOrder_12 ?_
    refine j_icmp_lt (tgt := 29) (pc := 15) g dX8_requireOrder_15 (by decide) (fun c_15 => ?_) (fun c_15 => ?_)
    · have hf := gx_it c_15 hf
      exact hE _ _ _ hf dX8_requireOrder_29
    · have hf := gx_if c_15 hf
      cases hf
theorem cK_X8_X3_isOver_2 {D : va_G} {t : Nat → ClassId} {aa : gx_AA} {l : Launch} {R : Room} {cc : ByteArray} {nL : Nat} {J : gx_J} {ad : Nat → Nat} {rs : va_W} {k n pc : Nat} {L : List (Nat × Value)} {rest : List Value} (g : gx_G D t (gx_E0 aa) l R cc RX8 nL J) {σ : CS} {x0 x1 : Int32} {q : Int32} {fr lo : Nat} (hC : gx_C D t (gx_E0 aa) l yX3_isOver cX3_isOver 3 (some .boolean) fr lo [.ref (ad 2), .int x0, .int x1] (oC (fun p => ad (p + 2)) t σ.1.2.1 ++ (((ad (0 + 1), .inr (4, [.ref (ad (1 + 1)), .ref (ad (7 + 1)), .ref (ad (11 + 1)), .int (os_f σ.1.1 3), .int (os_f σ.1.1 4), .int (os_f σ.1.1 5), .int (os_f σ.1.1 6)])) :: (dC (fun p => ad (p + 8)) t σ.1.2.2.1 ++ bC (fun p => ad (p + 12)) t σ.1.2.2.2)) ++ ([kc0 ad σ.2.2.2.2.2.2.2] ++ (nC (fun p => ad (p + 15)) t σ.2.1 ++ (nC (fun p => ad (p + 29)) t σ.2.2.1 ++ (sC aa (fun p => ad (p + 43)) t (σ.2.2.2.1, σ.2.2.2.2.1) ++ (xC (fun p => ad (p + 46)) t σ.2.2.2.2.2.1 ++ (rC (fun p => ad (p + 48)) t σ.2.2.2.2.2.2.1 ++ rs)))))))) (oC (fun p => ad (p + 2)) t σ.1.2.1 ++ (((ad (0 + 1), .inr (4, [.ref (ad (1 + 1)), .ref (ad (7 + 1)), .ref (ad (11 + 1)), .int (os_f σ.1.1 3), .int (os_f σ.1.1 4), .int (os_f σ.1.1 5), .int (os_f σ.1.1 6)])) :: (dC (fun p => ad (p + 8)) t σ.1.2.2.1 ++ bC (fun p => ad (p + 12)) t σ.1.2.2.2)) ++ ([kc0 ad σ.2.2.2.2.2.2.2] ++ (nC (fun p => ad (p + 15)) t σ.2.1 ++ (nC (fun p => ad (p + 29)) t σ.2.2.1 ++ (sC aa (fun p => ad (p + 43)) t (σ.2.2.2.1, σ.2.2.2.2.1) ++ (xC (fun p => ad (p + 46)) t σ.2.2.2.2.2.1 ++ (rC (fun p => ad (p + 48)) t σ.2.2.2.2.2.2.1 ++ rs)))))))) (some (.int q))) (hR : fr + 1 ≤ R.frames ∧ 8 + (3 + 11) + lo ≤ R.locals) (hkn : k ≤ R.cells ∧ n ≤ R.slots) (hcat : (rest.map fun v => v.category).sum ≤ 8) (hd : decode cc pc = .ok (.invokevirtual 155, 3)) (kk : J k n (kW aa ad t σ rs) (pc + 3) L (.int q :: rest)) : J k n (kW aa ad t σ rs) pc L (.int x1 :: .int x0 :: .ref (ad 2) :: rest) := j_callVi (na := 2) (As := [.int x0, .int x1]) (q0 := 2) (ci := 5) g hC q_i_X3_isOver q_s_X3_isOver rfl rfl rfl q_c_X3_isOver q_l_X8_155 q_n_X3 (by decide +kernel) rfl hR hkn hcat (((pb1 ([kc0 ad σ.2.2.2.2.2.2.2]) (nC (fun p => ad (p + 1)) t σ.1) (nC (fun p => ad (p + 15)) t σ.2.1 ++ (nC (fun p => ad (p + 29)) t σ.2.2.1 ++ (sC aa (fun p => ad (p + 43)) t (σ.2.2.2.1, σ.2.2.2.2.1) ++ (xC (fun p => ad (p + 46)) t σ.2.2.2.2.2.1 ++ (rC (fun p => ad (p + 48)) t σ.2.2.2.2.2.2.1 ++ rs))))))).trans (pm_n1 (fun p => ad (p + 1)) t σ.1 ([kc0 ad σ.2.2.2.2.2.2.2] ++ (nC (fun p => ad (p + 15)) t σ.2.1 ++ (nC (fun p => ad (p + 29)) t σ.2.2.1 ++ (sC aa (fun p => ad (p + 43)) t (σ.2.2.2.1, σ.2.2.2.2.1) ++ (xC (fun p => ad (p + 46)) t σ.2.2.2.2.2.1 ++ (rC (fun p => ad (p + 48)) t σ.2.2.2.2.2.2.1 ++ rs)))))))) ((((pb1 ([kc0 ad σ.2.2.2.2.2.2.2]) (nC (fun p => ad (p + 1)) t σ.1) (nC (fun p => ad (p + 15)) t σ.2.1 ++ (nC (fun p => ad (p + 29)) t σ.2.2.1 ++ (sC aa (fun p => ad (p + 43)) t (σ.2.2.2.1, σ.2.2.2.2.1) ++ (xC (fun p => ad (p + 46)) t σ.2.2.2.2.2.1 ++ (rC (fun p => ad (p + 48)) t σ.2.2.2.2.2.2.1 ++ rs))))))).trans (pm_n1 (fun p => ad (p + 1)) t σ.1 ([kc0 ad σ.2.2.2.2.2.2.2] ++ (nC (fun p => ad (p + 15)) t σ.2.1 ++ (nC (fun p => ad (p + 29)) t σ.2.2.1 ++ (sC aa (fun p => ad (p + 43)) t (σ.2.2.2.1, σ.2.2.2.2.1) ++ (xC (fun p => ad (p + 46)) t σ.2.2.2.2.2.1 ++ (rC (fun p => ad (p + 48)) t σ.2.2.2.2.2.2.1 ++ rs))))))))).symm hd kk rfl
set_option maxRecDepth 100000 in
set_option maxHeartbeats 4000000 in
theorem cX8_requireWay_ {D : va_G} {t : Nat → ClassId} {aa : gx_AA} {l : Launch} {ad : Nat → Nat} {rs : va_W} {σ : CS} {p1 : Int32} {p2 : Int32} {q : CS} (hf : fX8_requireWay σ p1 p2 = some q) : gx_C D t (gx_E0 aa) l yX8_requireWay cX8_requireWay 3 none 2 46 [.ref (ad 0), .int p1, .int p2] (kW aa ad t σ rs) (kW aa ad t q rs) none := by
  refine gx_intro_v (by decide) (Nat.le_of_ble_eq_true rfl) (fun J g hE0 => ?_)
  have hE : ∀ (σ : CS) (pc : Nat) (L : List (Nat × Value)), some σ = some q → decode cX8_requireWay pc = .ok (.return_, 1) → J 0 0 (kW aa ad t σ rs) pc L [] := fun σ pc L h h1 => by cases h; exact hE0 pc L h1
  unfold fX8_requireWay at hf
  show J 0 0 (kW aa ad t σ rs) 0 [(0, .ref (ad 0)), (1, .int p1), (2, .int p2)] []
  refine j_aload_n (pc := 0) g 0 dX8_requireWay_0 rfl ?_
  refine gK_X8_0_0 (σ := σ) (pc := 1) g dX8_requireWay_1 ?_
  refine gK_X8_1_0 (σ := σ) (pc := 4) g dX8_requireWay_4 ?_
  refine j_iload_n (pc := 7) g 1 dX8_requireWay_7 rfl ?_
  refine j_iload_n (pc := 8) g 2 dX8_requireWay_8 rfl ?_
  obtain ⟨r9, h_9, hf⟩ := gx_bs hf
  refine cK_X8_X3_isOver_2 (σ := σ) (pc := 9) g (cX3_isOver_ (ad := (fun p => ad (p + 2))) h_9) ⟨Nat.le_of_ble_eq_true rfl, Nat.le_of_ble_eq_true rfl⟩ ⟨Nat.zero_le _, Nat.zero_le _⟩ (Nat.le_of_ble_eq_true rfl) dX8_requireWay_9 ?_
  refine j_if_ne (tgt := 26) (pc := 12) g dX8_requireWay_12 (by decide) (fun c_12 => ?_) (fun c_12 => ?_)
  · have hf := gx_if c_12 hf
    exact hE _ _ _ hf dX8_requireWay_26
  · have hf := gx_it c_12 hf
    cases hf
theorem cK_X8_X1_keep_16_5 {D : va_G} {t : Nat → ClassId} {aa : gx_AA} {l : Launch} {R : Room} {cc : ByteArray} {nL : Nat} {J : gx_J} {ad : Nat → Nat} {rs : va_W} {k n pc : Nat} {L : List (Nat × Value)} {rest : List Value} (g : gx_G D t (gx_E0 aa) l R cc RX8 nL J) {σ : CS} {q : (HS × NS)} {fr lo : Nat} (hC : gx_C D t (gx_E0 aa) l yX1_keep cX1_keep 3 none fr lo [.ref (ad 48), .ref (ad 15)] (rC (fun p => ad (p + 48)) t σ.2.2.2.2.2.2.1 ++ (nC (fun p => ad (p + 15)) t σ.2.1 ++ ([kc0 ad σ.2.2.2.2.2.2.2] ++ (nC (fun p => ad (p + 1)) t σ.1 ++ (nC (fun p => ad (p + 29)) t σ.2.2.1 ++ (sC aa (fun p => ad (p + 43)) t (σ.2.2.2.1, σ.2.2.2.2.1) ++ (xC (fun p => ad (p + 46)) t σ.2.2.2.2.2.1 ++ rs))))))) (rC (fun p => ad (p + 48)) t q.1 ++ (nC (fun p => ad (p + 15)) t q.2 ++ ([kc0 ad σ.2.2.2.2.2.2.2] ++ (nC (fun p => ad (p + 1)) t σ.1 ++ (nC (fun p => ad (p + 29)) t σ.2.2.1 ++ (sC aa (fun p => ad (p + 43)) t (σ.2.2.2.1, σ.2.2.2.2.1) ++ (xC (fun p => ad (p + 46)) t σ.2.2.2.2.2.1 ++ rs))))))) none) (hR : fr + 1 ≤ R.frames ∧ 8 + (3 + 11) + lo ≤ R.locals) (hkn : k ≤ R.cells ∧ n ≤ R.slots) (hcat : (rest.map fun v => v.category).sum ≤ 8) (hd : decode cc pc = .ok (.invokevirtual 307, 3)) (kk : J k n (kW aa ad t (σ.1, (q.2, (σ.2.2.1, (σ.2.2.2.1, (σ.2.2.2.2.1, (σ.2.2.2.2.2.1, (q.1, σ.2.2.2.2.2.2.2))))))) rs) (pc + 3) L (rest)) : J k n (kW aa ad t σ rs) pc L (.ref (ad 15) :: .ref (ad 48) :: rest) := j_callVv (na := 1) (As := [.ref (ad 15)]) (q0 := 48) (ci := 3) g hC q_i_X1_keep q_s_X1_keep rfl rfl rfl q_c_X1_keep q_l_X8_307 q_n_X1 (by decide +kernel) rfl hR hkn hcat (((pb6 ([kc0 ad σ.2.2.2.2.2.2.2]) (nC (fun p => ad (p + 1)) t σ.1) (nC (fun p => ad (p + 15)) t σ.2.1) (nC (fun p => ad (p + 29)) t σ.2.2.1) (sC aa (fun p => ad (p + 43)) t (σ.2.2.2.1, σ.2.2.2.2.1)) (xC (fun p => ad (p + 46)) t σ.2.2.2.2.2.1) (rC (fun p => ad (p + 48)) t σ.2.2.2.2.2.2.1) rs)).trans (List.Perm.append_left _ (pb2 ([kc0 ad σ.2.2.2.2.2.2.2]) (nC (fun p => ad (p + 1)) t σ.1) (nC (fun p => ad (p + 15)) t σ.2.1) (nC (fun p => ad (p + 29)) t σ.2.2.1 ++ (sC aa (fun p => ad (p + 43)) t (σ.2.2.2.1, σ.2.2.2.2.1) ++ (xC (fun p => ad (p + 46)) t σ.2.2.2.2.2.1 ++ rs)))))) ((((pb6 ([kc0 ad σ.2.2.2.2.2.2.2]) (nC (fun p => ad (p + 1)) t σ.1) (nC (fun p => ad (p + 15)) t q.2) (nC (fun p => ad (p + 29)) t σ.2.2.1) (sC aa (fun p => ad (p + 43)) t (σ.2.2.2.1, σ.2.2.2.2.1)) (xC (fun p => ad (p + 46)) t σ.2.2.2.2.2.1) (rC (fun p => ad (p + 48)) t q.1) rs)).trans (List.Perm.append_left _ (pb2 ([kc0 ad σ.2.2.2.2.2.2.2]) (nC (fun p => ad (p + 1)) t σ.1) (nC (fun p => ad (p + 15)) t q.2) (nC (fun p => ad (p + 29)) t σ.2.2.1 ++ (sC aa (fun p => ad (p + 43)) t (σ.2.2.2.1, σ.2.2.2.2.1) ++ (xC (fun p => ad (p + 46)) t σ.2.2.2.2.2.1 ++ rs))))))).symm hd kk rfl
set_option maxRecDepth 100000 in
set_option maxHeartbeats 4000000 in
theorem tX8_record_8 {D : va_G} {t : Nat → ClassId} {aa : gx_AA} {l : Launch} {J : gx_J} {ad : Nat → Nat} {rs : va_W} {q : (Int32 × CS)} (g : gx_G D t (gx_E0 aa) l ({ frames := 4, cells := 0, slots := 0, locals := 105 }) cX8_record RX8 2 J) (hE : ∀ (v : Int32) (σ : CS) (pc : Nat) (L : List (Nat × Value)), some (v, σ) = some q → decode cX8_record pc = .ok (.ireturn, 1) → narrow .int (.int v) = .int v → J 0 0 (kW aa ad t σ rs) pc L [.int v])  : ∀ (σ : CS) (v1 : Int32), fX8_record_8 σ v1 = some q → J 0 0 (kW aa ad t σ rs) 8 [(0, .ref (ad 0)), (1, .int v1)] [] := by
  intro σ v1 hf
  unfold fX8_record_8 at hf
  refine j_aload_n (pc := 8) g 0 dX8_record_8 rfl ?_
  refine gK_X8_0_3 (σ := σ) (pc := 9) g dX8_record_9 ?_
  refine j_aload_n (pc := 12) g 0 dX8_record_12 rfl ?_
  refine gK_X8_0_1 (σ := σ) (pc := 13) g dX8_record_13 ?_
  obtain ⟨r16, h_16, hf⟩ := gx_bs hf
  refine cK_X8_X1_keep_16_5 (σ := σ) (pc := 16) g (cX1_keep_ (ad := (fun p => ad (p + 48))) (bd := (fun p => ad (p + 15))) h_16) ⟨Nat.le_of_ble_eq_true rfl, Nat.le_of_ble_eq_true rfl⟩ ⟨Nat.zero_le _, Nat.zero_le _⟩ (Nat.le_of_ble_eq_true rfl) dX8_record_16 ?_
  refine j_iload_n (pc := 19) g 1 dX8_record_19 rfl ?_
  exact hE _ _ _ _ hf dX8_record_20 rfl
set_option maxRecDepth 100000 in
set_option maxHeartbeats 4000000 in
theorem cX8_record_ {D : va_G} {t : Nat → ClassId} {aa : gx_AA} {l : Launch} {ad : Nat → Nat} {rs : va_W} {σ : CS} {p1 : Int32} {q : (Int32 × CS)} (hf : fX8_record σ p1 = some q) : gx_C D t (gx_E0 aa) l yX8_record cX8_record 2 (some .int) 4 105 [.ref (ad 0), .int p1] (kW aa ad t σ rs) (kW aa ad t q.2 rs) (some (.int q.1)) := by
  refine gx_intro_i (by decide) (Nat.le_of_ble_eq_true rfl) (fun J g hE0 => ?_)
  have hE : ∀ (v : Int32) (σ : CS) (pc : Nat) (L : List (Nat × Value)), some (v, σ) = some q → decode cX8_record pc = .ok (.ireturn, 1) → narrow .int (.int v) = .int v → J 0 0 (kW aa ad t σ rs) pc L [.int v] := fun v σ pc L h h1 h2 => by cases h; exact hE0 pc L h1 h2
  unfold fX8_record at hf
  show J 0 0 (kW aa ad t σ rs) 0 [(0, .ref (ad 0)), (1, .int p1)] []
  refine j_iload_n (pc := 0) g 1 dX8_record_0 rfl ?_
  refine j_if_ge (tgt := 8) (pc := 1) g dX8_record_1 (by decide) (fun c_1 => ?_) (fun c_1 => ?_)
  · have hf := gx_it c_1 hf
    refine j_sub (pc := 8) g [0, 1] rfl ?_
    exact tX8_record_8 g hE σ p1 hf
  · have hf := gx_if c_1 hf
    refine j_iload_n (pc := 4) g 1 dX8_record_4 rfl ?_
    cases hf
theorem cK_X8_X5_rewind_13 {D : va_G} {t : Nat → ClassId} {aa : gx_AA} {l : Launch} {R : Room} {cc : ByteArray} {nL : Nat} {J : gx_J} {ad : Nat → Nat} {rs : va_W} {k n pc : Nat} {L : List (Nat × Value)} {rest : List Value} (g : gx_G D t (gx_E0 aa) l R cc RX8 nL J) {σ : CS} {q : (OS × OS)} {fr lo : Nat} (hC : gx_C D t (gx_E0 aa) l yX5_rewind cX5_rewind 1 none fr lo [.ref (ad 43)] (sC aa (fun p => ad (p + 43)) t (σ.2.2.2.1, σ.2.2.2.2.1) ++ ([kc0 ad σ.2.2.2.2.2.2.2] ++ (nC (fun p => ad (p + 1)) t σ.1 ++ (nC (fun p => ad (p + 15)) t σ.2.1 ++ (nC (fun p => ad (p + 29)) t σ.2.2.1 ++ (xC (fun p => ad (p + 46)) t σ.2.2.2.2.2.1 ++ (rC (fun p => ad (p + 48)) t σ.2.2.2.2.2.2.1 ++ rs))))))) (sC aa (fun p => ad (p + 43)) t q ++ ([kc0 ad σ.2.2.2.2.2.2.2] ++ (nC (fun p => ad (p + 1)) t σ.1 ++ (nC (fun p => ad (p + 15)) t σ.2.1 ++ (nC (fun p => ad (p + 29)) t σ.2.2.1 ++ (xC (fun p => ad (p + 46)) t σ.2.2.2.2.2.1 ++ (rC (fun p => ad (p + 48)) t σ.2.2.2.2.2.2.1 ++ rs))))))) none) (hR : fr + 1 ≤ R.frames ∧ 8 + (1 + 11) + lo ≤ R.locals) (hkn : k ≤ R.cells ∧ n ≤ R.slots) (hcat : (rest.map fun v => v.category).sum ≤ 8) (hd : decode cc pc = .ok (.invokevirtual 318, 3)) (kk : J k n (kW aa ad t (σ.1, (σ.2.1, (σ.2.2.1, (q.1, (q.2, σ.2.2.2.2.2))))) rs) (pc + 3) L (rest)) : J k n (kW aa ad t σ rs) pc L (.ref (ad 43) :: rest) := j_callVv (na := 0) (As := []) (q0 := 43) (ci := 7) g hC q_i_X5_rewind q_s_X5_rewind rfl rfl rfl q_c_X5_rewind q_l_X8_318 q_n_X5 (by decide +kernel) rfl hR hkn hcat (pb4 ([kc0 ad σ.2.2.2.2.2.2.2]) (nC (fun p => ad (p + 1)) t σ.1) (nC (fun p => ad (p + 15)) t σ.2.1) (nC (fun p => ad (p + 29)) t σ.2.2.1) (sC aa (fun p => ad (p + 43)) t (σ.2.2.2.1, σ.2.2.2.2.1)) (xC (fun p => ad (p + 46)) t σ.2.2.2.2.2.1 ++ (rC (fun p => ad (p + 48)) t σ.2.2.2.2.2.2.1 ++ rs))) ((pb4 ([kc0 ad σ.2.2.2.2.2.2.2]) (nC (fun p => ad (p + 1)) t σ.1) (nC (fun p => ad (p + 15)) t σ.2.1) (nC (fun p => ad (p + 29)) t σ.2.2.1) (sC aa (fun p => ad (p + 43)) t (q.1, q.2)) (xC (fun p => ad (p + 46)) t σ.2.2.2.2.2.1 ++ (rC (fun p => ad (p + 48)) t σ.2.2.2.2.2.2.1 ++ rs)))).symm hd kk rfl
theorem cK_X8_X5_readNext_13 {D : va_G} {t : Nat → ClassId} {aa : gx_AA} {l : Launch} {R : Room} {cc : ByteArray} {nL : Nat} {J : gx_J} {ad : Nat → Nat} {rs : va_W} {k n pc : Nat} {L : List (Nat × Value)} {rest : List Value} (g : gx_G D t (gx_E0 aa) l R cc RX8 nL J) {σ : CS} {q : (Int32 × (OS × OS))} {fr lo : Nat} (hC : gx_C D t (gx_E0 aa) l yX5_readNext cX5_readNext 1 (some .boolean) fr lo [.ref (ad 43)] (sC aa (fun p => ad (p + 43)) t (σ.2.2.2.1, σ.2.2.2.2.1) ++ ([kc0 ad σ.2.2.2.2.2.2.2] ++ (nC (fun p => ad (p + 1)) t σ.1 ++ (nC (fun p => ad (p + 15)) t σ.2.1 ++ (nC (fun p => ad (p + 29)) t σ.2.2.1 ++ (xC (fun p => ad (p + 46)) t σ.2.2.2.2.2.1 ++ (rC (fun p => ad (p + 48)) t σ.2.2.2.2.2.2.1 ++ rs))))))) (sC aa (fun p => ad (p + 43)) t q.2 ++ ([kc0 ad σ.2.2.2.2.2.2.2] ++ (nC (fun p => ad (p + 1)) t σ.1 ++ (nC (fun p => ad (p + 15)) t σ.2.1 ++ (nC (fun p => ad (p + 29)) t σ.2.2.1 ++ (xC (fun p => ad (p + 46)) t σ.2.2.2.2.2.1 ++ (rC (fun p => ad (p + 48)) t σ.2.2.2.2.2.2.1 ++ rs))))))) (some (.int q.1))) (hR : fr + 1 ≤ R.frames ∧ 8 + (1 + 11) + lo ≤ R.locals) (hkn : k ≤ R.cells ∧ n ≤ R.slots) (hcat : (rest.map fun v => v.category).sum ≤ 8) (hd : decode cc pc = .ok (.invokevirtual 321, 3)) (kk : J k n (kW aa ad t (σ.1, (σ.2.1, (σ.2.2.1, (q.2.1, (q.2.2, σ.2.2.2.2.2))))) rs) (pc + 3) L (.int q.1 :: rest)) : J k n (kW aa ad t σ rs) pc L (.ref (ad 43) :: rest) := j_callVi (na := 0) (As := []) (q0 := 43) (ci := 7) g hC q_i_X5_readNext q_s_X5_readNext rfl rfl rfl q_c_X5_readNext q_l_X8_321 q_n_X5 (by decide +kernel) rfl hR hkn hcat (pb4 ([kc0 ad σ.2.2.2.2.2.2.2]) (nC (fun p => ad (p + 1)) t σ.1) (nC (fun p => ad (p + 15)) t σ.2.1) (nC (fun p => ad (p + 29)) t σ.2.2.1) (sC aa (fun p => ad (p + 43)) t (σ.2.2.2.1, σ.2.2.2.2.1)) (xC (fun p => ad (p + 46)) t σ.2.2.2.2.2.1 ++ (rC (fun p => ad (p + 48)) t σ.2.2.2.2.2.2.1 ++ rs))) ((pb4 ([kc0 ad σ.2.2.2.2.2.2.2]) (nC (fun p => ad (p + 1)) t σ.1) (nC (fun p => ad (p + 15)) t σ.2.1) (nC (fun p => ad (p + 29)) t σ.2.2.1) (sC aa (fun p => ad (p + 43)) t (q.2.1, q.2.2)) (xC (fun p => ad (p + 46)) t σ.2.2.2.2.2.1 ++ (rC (fun p => ad (p + 48)) t σ.2.2.2.2.2.2.1 ++ rs)))).symm hd kk rfl
theorem gK_verb_X8 {D : va_G} {t : Nat → ClassId} {aa : gx_AA} {l : Launch} {R : Room} {cc : ByteArray} {nL : Nat} {J : gx_J} {ad : Nat → Nat} {rs : va_W} {k n pc : Nat} {L : List (Nat × Value)} {st : List Value} (g : gx_G D t (gx_E0 aa) l R cc RX8 nL J) {σ : CS} (hd : decode cc pc = .ok (.getfield 328, 3)) (kk : J k n (kW aa ad t σ rs) (pc + 3) L (gx_ve aa (os_f σ.2.2.2.1 2) :: st)) : J k n (kW aa ad t σ rs) pc L (.ref (ad 43) :: st) := j_get g in_X5 43 rfl rfl 2 (by decide) q_f_X8_328 rfl rfl hd kk
theorem gK_X8_13_3 {D : va_G} {t : Nat → ClassId} {aa : gx_AA} {l : Launch} {R : Room} {cc : ByteArray} {nL : Nat} {J : gx_J} {ad : Nat → Nat} {rs : va_W} {k n pc : Nat} {L : List (Nat × Value)} {st : List Value} (g : gx_G D t (gx_E0 aa) l R cc RX8 nL J) {σ : CS} (hd : decode cc pc = .ok (.getfield 337, 3)) (kk : J k n (kW aa ad t σ rs) (pc + 3) L (.int (os_f σ.2.2.2.1 3) :: st)) : J k n (kW aa ad t σ rs) pc L (.ref (ad 43) :: st) := j_get g in_X5 43 rfl rfl 3 (by decide) q_f_X8_337 rfl rfl hd kk
theorem gK_X8_13_4 {D : va_G} {t : Nat → ClassId} {aa : gx_AA} {l : Launch} {R : Room} {cc : ByteArray} {nL : Nat} {J : gx_J} {ad : Nat → Nat} {rs : va_W} {k n pc : Nat} {L : List (Nat × Value)} {st : List Value} (g : gx_G D t (gx_E0 aa) l R cc RX8 nL J) {σ : CS} (hd : decode cc pc = .ok (.getfield 340, 3)) (kk : J k n (kW aa ad t σ rs) (pc + 3) L (.int (os_f σ.2.2.2.1 4) :: st)) : J k n (kW aa ad t σ rs) pc L (.ref (ad 43) :: st) := j_get g in_X5 43 rfl rfl 4 (by decide) q_f_X8_340 rfl rfl hd kk
theorem gK_X8_13_5 {D : va_G} {t : Nat → ClassId} {aa : gx_AA} {l : Launch} {R : Room} {cc : ByteArray} {nL : Nat} {J : gx_J} {ad : Nat → Nat} {rs : va_W} {k n pc : Nat} {L : List (Nat × Value)} {st : List Value} (g : gx_G D t (gx_E0 aa) l R cc RX8 nL J) {σ : CS} (hd : decode cc pc = .ok (.getfield 343, 3)) (kk : J k n (kW aa ad t σ rs) (pc + 3) L (.int (os_f σ.2.2.2.1 5) :: st)) : J k n (kW aa ad t σ rs) pc L (.ref (ad 43) :: st) := j_get g in_X5 43 rfl rfl 5 (by decide) q_f_X8_343 rfl rfl hd kk
set_option maxRecDepth 100000 in
set_option maxHeartbeats 4000000 in
theorem cX8_carryOut_ {D : va_G} {t : Nat → ClassId} {aa : gx_AA} {l : Launch} {ad : Nat → Nat} {rs : va_W} {σ : CS} {q : (Int32 × CS)} (hf : fX8_carryOut σ = some q) : gx_C D t (gx_E0 aa) l yX8_carryOut cX8_carryOut 1 (some .int) 18 430 [.ref (ad 0)] (kW aa ad t σ rs) (kW aa ad t q.2 rs) (some (.int q.1)) := by
  refine gx_intro_i (by decide) (Nat.le_of_ble_eq_true rfl) (fun J g hE0 => ?_)
  have hE : ∀ (v : Int32) (σ : CS) (pc : Nat) (L : List (Nat × Value)), some (v, σ) = some q → decode cX8_carryOut pc = .ok (.ireturn, 1) → narrow .int (.int v) = .int v → J 0 0 (kW aa ad t σ rs) pc L [.int v] := fun v σ pc L h h1 h2 => by cases h; exact hE0 pc L h1 h2
  unfold fX8_carryOut at hf
  show J 0 0 (kW aa ad t σ rs) 0 [(0, .ref (ad 0))] []
  refine j_aload_n (pc := 0) g 0 dX8_carryOut_0 rfl ?_
  refine gK_X8_0_4 (σ := σ) (pc := 1) g dX8_carryOut_1 ?_
  refine gK_verb_X8 (σ := σ) (pc := 4) g dX8_carryOut_4 ?_
  refine j_gets (pc := 7) g (v := gx_ve aa 1) (e_verb (i := 0) (by decide)) q_f_X8_332 rfl dX8_carryOut_7 ?_
  obtain ⟨h_10, hf⟩ := gx_ck hf
  refine j_acmp_ne (x := (os_f σ.2.2.2.1 2)) (y := (1 : Int32)) (tgt := 42) (pc := 10) g h_10 (by decide) dX8_carryOut_10 (by decide) (fun c_10 => ?_) (fun c_10 => ?_)
  · have hf := gx_if c_10 hf
    refine j_aload_n (pc := 42) g 0 dX8_carryOut_42 rfl ?_
    refine gK_X8_0_4 (σ := σ) (pc := 43) g dX8_carryOut_43 ?_
    refine gK_verb_X8 (σ := σ) (pc := 46) g dX8_carryOut_46 ?_
    refine j_gets (pc := 49) g (v := gx_ve aa 2) (e_verb (i := 1) (by decide)) q_f_X8_346 rfl dX8_carryOut_49 ?_
    obtain ⟨h_52, hf⟩ := gx_ck hf
    refine j_acmp_ne (x := (os_f σ.2.2.2.1 2)) (y := (2 : Int32)) (tgt := 77) (pc := 52) g h_52 (by decide) dX8_carryOut_52 (by decide) (fun c_52 => ?_) (fun c_52 => ?_)
    · have hf := gx_if c_52 hf
      refine j_aload_n (pc := 77) g 0 dX8_carryOut_77 rfl ?_
      refine gK_X8_0_4 (σ := σ) (pc := 78) g dX8_carryOut_78 ?_
      refine gK_verb_X8 (σ := σ) (pc := 81) g dX8_carryOut_81 ?_
      refine j_gets (pc := 84) g (v := gx_ve aa 3) (e_verb (i := 2) (by decide)) q_f_X8_349 rfl dX8_carryOut_84 ?_
      obtain ⟨h_87, hf⟩ := gx_ck hf
      refine j_acmp_ne (x := (os_f σ.2.2.2.1 2)) (y := (3 : Int32)) (tgt := 105) (pc := 87) g h_87 (by decide) dX8_carryOut_87 (by decide) (fun c_87 => ?_) (fun c_87 => ?_)
      · have hf := gx_if c_87 hf
        refine j_aload_n (pc := 105) g 0 dX8_carryOut_105 rfl ?_
        refine gK_X8_0_4 (σ := σ) (pc := 106) g dX8_carryOut_106 ?_
        refine gK_verb_X8 (σ := σ) (pc := 109) g dX8_carryOut_109 ?_
        refine j_gets (pc := 112) g (v := gx_ve aa 4) (e_verb (i := 3) (by decide)) q_f_X8_352 rfl dX8_carryOut_112 ?_
        obtain ⟨h_115, hf⟩ := gx_ck hf
        refine j_acmp_ne (x := (os_f σ.2.2.2.1 2)) (y := (4 : Int32)) (tgt := 147) (pc := 115) g h_115 (by decide) dX8_carryOut_115 (by decide) (fun c_115 => ?_) (fun c_115 => ?_)
        · have hf := gx_if c_115 hf
          refine j_aload_n (pc := 147) g 0 dX8_carryOut_147 rfl ?_
          refine gK_X8_0_4 (σ := σ) (pc := 148) g dX8_carryOut_148 ?_
          refine gK_verb_X8 (σ := σ) (pc := 151) g dX8_carryOut_151 ?_
          refine j_gets (pc := 154) g (v := gx_ve aa 5) (e_verb (i := 4) (by decide)) q_f_X8_355 rfl dX8_carryOut_154 ?_
          obtain ⟨h_157, hf⟩ := gx_ck hf
          refine j_acmp_ne (x := (os_f σ.2.2.2.1 2)) (y := (5 : Int32)) (tgt := 192) (pc := 157) g h_157 (by decide) dX8_carryOut_157 (by decide) (fun c_157 => ?_) (fun c_157 => ?_)
          · have hf := gx_if c_157 hf
            refine j_aload_n (pc := 192) g 0 dX8_carryOut_192 rfl ?_
            refine gK_X8_0_0 (σ := σ) (pc := 193) g dX8_carryOut_193 ?_
            refine j_aload_n (pc := 196) g 0 dX8_carryOut_196 rfl ?_
            refine gK_X8_0_4 (σ := σ) (pc := 197) g dX8_carryOut_197 ?_
            refine gK_X8_13_3 (σ := σ) (pc := 200) g dX8_carryOut_200 ?_
            obtain ⟨r203, h_203, hf⟩ := gx_bs hf
            refine cK_X8_X2_letHoursPass_1 (σ := σ) (pc := 203) g (cX2_letHoursPass_ (ad := (fun p => ad (p + 1))) h_203) ⟨Nat.le_of_ble_eq_true rfl, Nat.le_of_ble_eq_true rfl⟩ ⟨Nat.zero_le _, Nat.zero_le _⟩ (Nat.le_of_ble_eq_true rfl) dX8_carryOut_203 ?_
            exact hE _ _ _ _ hf dX8_carryOut_206 rfl
          · have hf := gx_it c_157 hf
            refine j_aload_n (pc := 160) g 0 dX8_carryOut_160 rfl ?_
            refine gK_X8_0_0 (σ := σ) (pc := 161) g dX8_carryOut_161 ?_
            refine gK_X8_1_2 (σ := σ) (pc := 164) g dX8_carryOut_164 ?_
            refine j_aload_n (pc := 167) g 0 dX8_carryOut_167 rfl ?_
            refine gK_X8_0_4 (σ := σ) (pc := 168) g dX8_carryOut_168 ?_
            refine gK_X8_13_3 (σ := σ) (pc := 171) g dX8_carryOut_171 ?_
            refine j_aload_n (pc := 174) g 0 dX8_carryOut_174 rfl ?_
            refine gK_X8_0_4 (σ := σ) (pc := 175) g dX8_carryOut_175 ?_
            refine gK_X8_13_4 (σ := σ) (pc := 178) g dX8_carryOut_178 ?_
            refine j_aload_n (pc := 181) g 0 dX8_carryOut_181 rfl ?_
            refine gK_X8_0_4 (σ := σ) (pc := 182) g dX8_carryOut_182 ?_
            refine gK_X8_13_5 (σ := σ) (pc := 185) g dX8_carryOut_185 ?_
            obtain ⟨r188, h_188, hf⟩ := gx_bs hf
            refine cK_X8_X0_assign_4 (σ := σ) (pc := 188) g (cX0_assign_ (ad := (fun p => ad (p + 12))) h_188) ⟨Nat.le_of_ble_eq_true rfl, Nat.le_of_ble_eq_true rfl⟩ ⟨Nat.zero_le _, Nat.zero_le _⟩ (Nat.le_of_ble_eq_true rfl) dX8_carryOut_188 ?_
            exact hE _ _ _ _ hf dX8_carryOut_191 rfl
        · have hf := gx_it c_115 hf
          refine j_aload_n (pc := 118) g 0 dX8_carryOut_118 rfl ?_
          refine gK_X8_0_0 (σ := σ) (pc := 119) g dX8_carryOut_119 ?_
          refine j_aload_n (pc := 122) g 0 dX8_carryOut_122 rfl ?_
          refine gK_X8_0_4 (σ := σ) (pc := 123) g dX8_carryOut_123 ?_
          refine gK_X8_13_3 (σ := σ) (pc := 126) g dX8_carryOut_126 ?_
          refine j_aload_n (pc := 129) g 0 dX8_carryOut_129 rfl ?_
          refine gK_X8_0_4 (σ := σ) (pc := 130) g dX8_carryOut_130 ?_
          refine gK_X8_13_4 (σ := σ) (pc := 133) g dX8_carryOut_133 ?_
          refine j_aload_n (pc := 136) g 0 dX8_carryOut_136 rfl ?_
          refine gK_X8_0_4 (σ := σ) (pc := 137) g dX8_carryOut_137 ?_
          refine gK_X8_13_5 (σ := σ) (pc := 140) g dX8_carryOut_140 ?_
          obtain ⟨r143, h_143, hf⟩ := gx_bs hf
          refine cK_X8_X2_giveOrder_1 (σ := σ) (pc := 143) g (cX2_giveOrder_ (ad := (fun p => ad (p + 1))) h_143) ⟨Nat.le_of_ble_eq_true rfl, Nat.le_of_ble_eq_true rfl⟩ ⟨Nat.zero_le _, Nat.zero_le _⟩ (Nat.le_of_ble_eq_true rfl) dX8_carryOut_143 ?_
          exact hE _ _ _ _ hf dX8_carryOut_146 rfl
      · have hf := gx_it c_87 hf
        refine j_aload_n (pc := 90) g 0 dX8_carryOut_90 rfl ?_
        refine gK_X8_0_0 (σ := σ) (pc := 91) g dX8_carryOut_91 ?_
        refine j_aload_n (pc := 94) g 0 dX8_carryOut_94 rfl ?_
        refine gK_X8_0_4 (σ := σ) (pc := 95) g dX8_carryOut_95 ?_
        refine gK_X8_13_3 (σ := σ) (pc := 98) g dX8_carryOut_98 ?_
        obtain ⟨r101, h_101, hf⟩ := gx_bs hf
        refine cK_X8_X2_fire_1 (σ := σ) (pc := 101) g (cX2_fire_ (ad := (fun p => ad (p + 1))) h_101) ⟨Nat.le_of_ble_eq_true rfl, Nat.le_of_ble_eq_true rfl⟩ ⟨Nat.zero_le _, Nat.zero_le _⟩ (Nat.le_of_ble_eq_true rfl) dX8_carryOut_101 ?_
        exact hE _ _ _ _ hf dX8_carryOut_104 rfl
    · have hf := gx_it c_52 hf
      refine j_aload_n (pc := 55) g 0 dX8_carryOut_55 rfl ?_
      refine gK_X8_0_0 (σ := σ) (pc := 56) g dX8_carryOut_56 ?_
      refine j_aload_n (pc := 59) g 0 dX8_carryOut_59 rfl ?_
      refine gK_X8_0_4 (σ := σ) (pc := 60) g dX8_carryOut_60 ?_
      refine gK_X8_13_3 (σ := σ) (pc := 63) g dX8_carryOut_63 ?_
      refine j_aload_n (pc := 66) g 0 dX8_carryOut_66 rfl ?_
      refine gK_X8_0_4 (σ := σ) (pc := 67) g dX8_carryOut_67 ?_
      refine gK_X8_13_4 (σ := σ) (pc := 70) g dX8_carryOut_70 ?_
      obtain ⟨r73, h_73, hf⟩ := gx_bs hf
      refine cK_X8_X2_move_1 (σ := σ) (pc := 73) g (cX2_move_ (ad := (fun p => ad (p + 1))) h_73) ⟨Nat.le_of_ble_eq_true rfl, Nat.le_of_ble_eq_true rfl⟩ ⟨Nat.zero_le _, Nat.zero_le _⟩ (Nat.le_of_ble_eq_true rfl) dX8_carryOut_73 ?_
      exact hE _ _ _ _ hf dX8_carryOut_76 rfl
  · have hf := gx_it c_10 hf
    refine j_aload_n (pc := 13) g 0 dX8_carryOut_13 rfl ?_
    refine gK_X8_0_0 (σ := σ) (pc := 14) g dX8_carryOut_14 ?_
    refine j_aload_n (pc := 17) g 0 dX8_carryOut_17 rfl ?_
    refine gK_X8_0_4 (σ := σ) (pc := 18) g dX8_carryOut_18 ?_
    refine gK_X8_13_3 (σ := σ) (pc := 21) g dX8_carryOut_21 ?_
    refine j_aload_n (pc := 24) g 0 dX8_carryOut_24 rfl ?_
    refine gK_X8_0_4 (σ := σ) (pc := 25) g dX8_carryOut_25 ?_
    refine gK_X8_13_4 (σ := σ) (pc := 28) g dX8_carryOut_28 ?_
    refine j_aload_n (pc := 31) g 0 dX8_carryOut_31 rfl ?_
    refine gK_X8_0_4 (σ := σ) (pc := 32) g dX8_carryOut_32 ?_
    refine gK_X8_13_5 (σ := σ) (pc := 35) g dX8_carryOut_35 ?_
    obtain ⟨r38, h_38, hf⟩ := gx_bs hf
    refine cK_X8_X2_enlist_1 (σ := σ) (pc := 38) g (cX2_enlist_ (ad := (fun p => ad (p + 1))) h_38) ⟨Nat.le_of_ble_eq_true rfl, Nat.le_of_ble_eq_true rfl⟩ ⟨Nat.zero_le _, Nat.zero_le _⟩ (Nat.le_of_ble_eq_true rfl) dX8_carryOut_38 ?_
    exact hE _ _ _ _ hf dX8_carryOut_41 rfl
theorem cK_X8_X8_record_0 {D : va_G} {t : Nat → ClassId} {aa : gx_AA} {l : Launch} {R : Room} {cc : ByteArray} {nL : Nat} {J : gx_J} {ad : Nat → Nat} {rs : va_W} {k n pc : Nat} {L : List (Nat × Value)} {rest : List Value} (g : gx_G D t (gx_E0 aa) l R cc RX8 nL J) {σ : CS} {x0 : Int32} {q : (Int32 × CS)} {fr lo : Nat} (hC : gx_C D t (gx_E0 aa) l yX8_record cX8_record 2 (some .int) fr lo [.ref (ad 0), .int x0] (kW aa ad t σ rs) (kW aa ad t q.2 rs) (some (.int q.1))) (hR : fr + 1 ≤ R.frames ∧ 8 + (2 + 11) + lo ≤ R.locals) (hkn : k ≤ R.cells ∧ n ≤ R.slots) (hcat : (rest.map fun v => v.category).sum ≤ 8) (hd : decode cc pc = .ok (.invokevirtual 62, 3)) (kk : J k n (kW aa ad t q.2 rs) (pc + 3) L (.int q.1 :: rest)) : J k n (kW aa ad t σ rs) pc L (.int x0 :: .ref (ad 0) :: rest) := j_callVi (na := 1) (As := [.int x0]) (q0 := 0) (ci := 9) g hC q_i_X8_record q_s_X8_record rfl rfl rfl q_c_X8_record q_l_X8_62 q_n_X8 (by decide +kernel) rfl hR hkn hcat (.refl _) (.refl _) hd kk rfl
set_option maxRecDepth 100000 in
set_option maxHeartbeats 4000000 in
theorem cX8_appoint_ {D : va_G} {t : Nat → ClassId} {aa : gx_AA} {l : Launch} {ad : Nat → Nat} {rs : va_W} {σ : CS} {p1 : Int32} {p2 : Int32} {p3 : Int32} {q : (Int32 × CS)} (hf : fX8_appoint σ p1 p2 p3 = some q) : gx_C D t (gx_E0 aa) l yX8_appoint cX8_appoint 4 (some .int) 5 126 [.ref (ad 0), .int p1, .int p2, .int p3] (kW aa ad t σ rs) (kW aa ad t q.2 rs) (some (.int q.1)) := by
  refine gx_intro_i (by decide) (Nat.le_of_ble_eq_true rfl) (fun J g hE0 => ?_)
  have hE : ∀ (v : Int32) (σ : CS) (pc : Nat) (L : List (Nat × Value)), some (v, σ) = some q → decode cX8_appoint pc = .ok (.ireturn, 1) → narrow .int (.int v) = .int v → J 0 0 (kW aa ad t σ rs) pc L [.int v] := fun v σ pc L h h1 h2 => by cases h; exact hE0 pc L h1 h2
  unfold fX8_appoint at hf
  show J 0 0 (kW aa ad t σ rs) 0 [(0, .ref (ad 0)), (1, .int p1), (2, .int p2), (3, .int p3)] []
  refine j_aload_n (pc := 0) g 0 dX8_appoint_0 rfl ?_
  refine gK_X8_0_1 (σ := σ) (pc := 1) g dX8_appoint_1 ?_
  refine j_aload_n (pc := 4) g 0 dX8_appoint_4 rfl ?_
  refine gK_X8_0_0 (σ := σ) (pc := 5) g dX8_appoint_5 ?_
  obtain ⟨r8, h_8, hf⟩ := gx_bs hf
  refine cK_X8_X2_copyFrom_5_1 (σ := σ) (pc := 8) g (cX2_copyFrom_ (ad := (fun p => ad (p + 15))) (bd := (fun p => ad (p + 1))) h_8) ⟨Nat.le_of_ble_eq_true rfl, Nat.le_of_ble_eq_true rfl⟩ ⟨Nat.zero_le _, Nat.zero_le _⟩ (Nat.le_of_ble_eq_true rfl) dX8_appoint_8 ?_
  refine j_aload_n (pc := 11) g 0 dX8_appoint_11 rfl ?_
  refine j_aload_n (pc := 12) g 0 dX8_appoint_12 rfl ?_
  refine gK_X8_0_0 (σ := (r8.2, (r8.1, σ.2.2))) (pc := 13) g dX8_appoint_13 ?_
  refine j_iload_n (pc := 16) g 1 dX8_appoint_16 rfl ?_
  refine j_iload_n (pc := 17) g 2 dX8_appoint_17 rfl ?_
  refine j_iload_n (pc := 18) g 3 dX8_appoint_18 rfl ?_
  obtain ⟨r19, h_19, hf⟩ := gx_bs hf
  refine cK_X8_X2_enlist_1 (σ := (r8.2, (r8.1, σ.2.2))) (pc := 19) g (cX2_enlist_ (ad := (fun p => ad (p + 1))) h_19) ⟨Nat.le_of_ble_eq_true rfl, Nat.le_of_ble_eq_true rfl⟩ ⟨Nat.zero_le _, Nat.zero_le _⟩ (Nat.le_of_ble_eq_true rfl) dX8_appoint_19 ?_
  obtain ⟨r22, h_22, hf⟩ := gx_bs hf
  refine cK_X8_X8_record_0 (σ := (r19.2, (r8.1, σ.2.2))) (pc := 22) g (cX8_record_ h_22) ⟨Nat.le_of_ble_eq_true rfl, Nat.le_of_ble_eq_true rfl⟩ ⟨Nat.zero_le _, Nat.zero_le _⟩ (Nat.le_of_ble_eq_true rfl) dX8_appoint_22 ?_
  exact hE _ _ _ _ hf dX8_appoint_25 rfl

set_option maxRecDepth 100000 in
set_option maxHeartbeats 4000000 in
theorem cX8_promote_ {D : va_G} {t : Nat → ClassId} {aa : gx_AA} {l : Launch} {ad : Nat → Nat} {rs : va_W} {σ : CS} {p1 : Int32} {q : (Int32 × CS)} (hf : fX8_promote σ p1 = some q) : gx_C D t (gx_E0 aa) l yX8_promote cX8_promote 2 (some .int) 5 126 [.ref (ad 0), .int p1] (kW aa ad t σ rs) (kW aa ad t q.2 rs) (some (.int q.1)) := by
  refine gx_intro_i (by decide) (Nat.le_of_ble_eq_true rfl) (fun J g hE0 => ?_)
  have hE : ∀ (v : Int32) (σ : CS) (pc : Nat) (L : List (Nat × Value)), some (v, σ) = some q → decode cX8_promote pc = .ok (.ireturn, 1) → narrow .int (.int v) = .int v → J 0 0 (kW aa ad t σ rs) pc L [.int v] := fun v σ pc L h h1 h2 => by cases h; exact hE0 pc L h1 h2
  unfold fX8_promote at hf
  show J 0 0 (kW aa ad t σ rs) 0 [(0, .ref (ad 0)), (1, .int p1)] []
  refine j_aload_n (pc := 0) g 0 dX8_promote_0 rfl ?_
  refine gK_X8_0_1 (σ := σ) (pc := 1) g dX8_promote_1 ?_
  refine j_aload_n (pc := 4) g 0 dX8_promote_4 rfl ?_
  refine gK_X8_0_0 (σ := σ) (pc := 5) g dX8_promote_5 ?_
  obtain ⟨r8, h_8, hf⟩ := gx_bs hf
  refine cK_X8_X2_copyFrom_5_1 (σ := σ) (pc := 8) g (cX2_copyFrom_ (ad := (fun p => ad (p + 15))) (bd := (fun p => ad (p + 1))) h_8) ⟨Nat.le_of_ble_eq_true rfl, Nat.le_of_ble_eq_true rfl⟩ ⟨Nat.zero_le _, Nat.zero_le _⟩ (Nat.le_of_ble_eq_true rfl) dX8_promote_8 ?_
  refine j_aload_n (pc := 11) g 0 dX8_promote_11 rfl ?_
  refine j_aload_n (pc := 12) g 0 dX8_promote_12 rfl ?_
  refine gK_X8_0_0 (σ := (r8.2, (r8.1, σ.2.2))) (pc := 13) g dX8_promote_13 ?_
  refine j_iload_n (pc := 16) g 1 dX8_promote_16 rfl ?_
  obtain ⟨r17, h_17, hf⟩ := gx_bs hf
  refine cK_X8_X2_raiseRank_1 (σ := (r8.2, (r8.1, σ.2.2))) (pc := 17) g (cX2_raiseRank_ (ad := (fun p => ad (p + 1))) h_17) ⟨Nat.le_of_ble_eq_true rfl, Nat.le_of_ble_eq_true rfl⟩ ⟨Nat.zero_le _, Nat.zero_le _⟩ (Nat.le_of_ble_eq_true rfl) dX8_promote_17 ?_
  obtain ⟨r20, h_20, hf⟩ := gx_bs hf
  refine cK_X8_X8_record_0 (σ := (r17.2, (r8.1, σ.2.2))) (pc := 20) g (cX8_record_ h_20) ⟨Nat.le_of_ble_eq_true rfl, Nat.le_of_ble_eq_true rfl⟩ ⟨Nat.zero_le _, Nat.zero_le _⟩ (Nat.le_of_ble_eq_true rfl) dX8_promote_20 ?_
  exact hE _ _ _ _ hf dX8_promote_23 rfl

set_option maxRecDepth 100000 in
set_option maxHeartbeats 4000000 in
theorem cX8_transfer_ {D : va_G} {t : Nat → ClassId} {aa : gx_AA} {l : Launch} {ad : Nat → Nat} {rs : va_W} {σ : CS} {p1 : Int32} {p2 : Int32} {q : (Int32 × CS)} (hf : fX8_transfer σ p1 p2 = some q) : gx_C D t (gx_E0 aa) l yX8_transfer cX8_transfer 3 (some .int) 18 430 [.ref (ad 0), .int p1, .int p2] (kW aa ad t σ rs) (kW aa ad t q.2 rs) (some (.int q.1)) := by
  refine gx_intro_i (by decide) (Nat.le_of_ble_eq_true rfl) (fun J g hE0 => ?_)
  have hE : ∀ (v : Int32) (σ : CS) (pc : Nat) (L : List (Nat × Value)), some (v, σ) = some q → decode cX8_transfer pc = .ok (.ireturn, 1) → narrow .int (.int v) = .int v → J 0 0 (kW aa ad t σ rs) pc L [.int v] := fun v σ pc L h h1 h2 => by cases h; exact hE0 pc L h1 h2
  unfold fX8_transfer at hf
  show J 0 0 (kW aa ad t σ rs) 0 [(0, .ref (ad 0)), (1, .int p1), (2, .int p2)] []
  refine j_aload_n (pc := 0) g 0 dX8_transfer_0 rfl ?_
  refine gK_X8_0_1 (σ := σ) (pc := 1) g dX8_transfer_1 ?_
  refine j_aload_n (pc := 4) g 0 dX8_transfer_4 rfl ?_
  refine gK_X8_0_0 (σ := σ) (pc := 5) g dX8_transfer_5 ?_
  obtain ⟨r8, h_8, hf⟩ := gx_bs hf
  refine cK_X8_X2_copyFrom_5_1 (σ := σ) (pc := 8) g (cX2_copyFrom_ (ad := (fun p => ad (p + 15))) (bd := (fun p => ad (p + 1))) h_8) ⟨Nat.le_of_ble_eq_true rfl, Nat.le_of_ble_eq_true rfl⟩ ⟨Nat.zero_le _, Nat.zero_le _⟩ (Nat.le_of_ble_eq_true rfl) dX8_transfer_8 ?_
  refine j_aload_n (pc := 11) g 0 dX8_transfer_11 rfl ?_
  refine j_aload_n (pc := 12) g 0 dX8_transfer_12 rfl ?_
  refine gK_X8_0_0 (σ := (r8.2, (r8.1, σ.2.2))) (pc := 13) g dX8_transfer_13 ?_
  refine j_iload_n (pc := 16) g 1 dX8_transfer_16 rfl ?_
  refine j_iload_n (pc := 17) g 2 dX8_transfer_17 rfl ?_
  obtain ⟨r18, h_18, hf⟩ := gx_bs hf
  refine cK_X8_X2_move_1 (σ := (r8.2, (r8.1, σ.2.2))) (pc := 18) g (cX2_move_ (ad := (fun p => ad (p + 1))) h_18) ⟨Nat.le_of_ble_eq_true rfl, Nat.le_of_ble_eq_true rfl⟩ ⟨Nat.zero_le _, Nat.zero_le _⟩ (Nat.le_of_ble_eq_true rfl) dX8_transfer_18 ?_
  obtain ⟨r21, h_21, hf⟩ := gx_bs hf
  refine cK_X8_X8_record_0 (σ := (r18.2, (r8.1, σ.2.2))) (pc := 21) g (cX8_record_ h_21) ⟨Nat.le_of_ble_eq_true rfl, Nat.le_of_ble_eq_true rfl⟩ ⟨Nat.zero_le _, Nat.zero_le _⟩ (Nat.le_of_ble_eq_true rfl) dX8_transfer_21 ?_
  exact hE _ _ _ _ hf dX8_transfer_24 rfl

set_option maxRecDepth 100000 in
set_option maxHeartbeats 4000000 in
theorem cX8_dismiss_ {D : va_G} {t : Nat → ClassId} {aa : gx_AA} {l : Launch} {ad : Nat → Nat} {rs : va_W} {σ : CS} {p1 : Int32} {q : (Int32 × CS)} (hf : fX8_dismiss σ p1 = some q) : gx_C D t (gx_E0 aa) l yX8_dismiss cX8_dismiss 2 (some .int) 5 126 [.ref (ad 0), .int p1] (kW aa ad t σ rs) (kW aa ad t q.2 rs) (some (.int q.1)) := by
  refine gx_intro_i (by decide) (Nat.le_of_ble_eq_true rfl) (fun J g hE0 => ?_)
  have hE : ∀ (v : Int32) (σ : CS) (pc : Nat) (L : List (Nat × Value)), some (v, σ) = some q → decode cX8_dismiss pc = .ok (.ireturn, 1) → narrow .int (.int v) = .int v → J 0 0 (kW aa ad t σ rs) pc L [.int v] := fun v σ pc L h h1 h2 => by cases h; exact hE0 pc L h1 h2
  unfold fX8_dismiss at hf
  show J 0 0 (kW aa ad t σ rs) 0 [(0, .ref (ad 0)), (1, .int p1)] []
  refine j_aload_n (pc := 0) g 0 dX8_dismiss_0 rfl ?_
  refine gK_X8_0_1 (σ := σ) (pc := 1) g dX8_dismiss_1 ?_
  refine j_aload_n (pc := 4) g 0 dX8_dismiss_4 rfl ?_
  refine gK_X8_0_0 (σ := σ) (pc := 5) g dX8_dismiss_5 ?_
  obtain ⟨r8, h_8, hf⟩ := gx_bs hf
  refine cK_X8_X2_copyFrom_5_1 (σ := σ) (pc := 8) g (cX2_copyFrom_ (ad := (fun p => ad (p + 15))) (bd := (fun p => ad (p + 1))) h_8) ⟨Nat.le_of_ble_eq_true rfl, Nat.le_of_ble_eq_true rfl⟩ ⟨Nat.zero_le _, Nat.zero_le _⟩ (Nat.le_of_ble_eq_true rfl) dX8_dismiss_8 ?_
  refine j_aload_n (pc := 11) g 0 dX8_dismiss_11 rfl ?_
  refine j_aload_n (pc := 12) g 0 dX8_dismiss_12 rfl ?_
  refine gK_X8_0_0 (σ := (r8.2, (r8.1, σ.2.2))) (pc := 13) g dX8_dismiss_13 ?_
  refine j_iload_n (pc := 16) g 1 dX8_dismiss_16 rfl ?_
  obtain ⟨r17, h_17, hf⟩ := gx_bs hf
  refine cK_X8_X2_fire_1 (σ := (r8.2, (r8.1, σ.2.2))) (pc := 17) g (cX2_fire_ (ad := (fun p => ad (p + 1))) h_17) ⟨Nat.le_of_ble_eq_true rfl, Nat.le_of_ble_eq_true rfl⟩ ⟨Nat.zero_le _, Nat.zero_le _⟩ (Nat.le_of_ble_eq_true rfl) dX8_dismiss_17 ?_
  obtain ⟨r20, h_20, hf⟩ := gx_bs hf
  refine cK_X8_X8_record_0 (σ := (r17.2, (r8.1, σ.2.2))) (pc := 20) g (cX8_record_ h_20) ⟨Nat.le_of_ble_eq_true rfl, Nat.le_of_ble_eq_true rfl⟩ ⟨Nat.zero_le _, Nat.zero_le _⟩ (Nat.le_of_ble_eq_true rfl) dX8_dismiss_20 ?_
  exact hE _ _ _ _ hf dX8_dismiss_23 rfl

set_option maxRecDepth 100000 in
set_option maxHeartbeats 4000000 in
theorem cX8_issue_ {D : va_G} {t : Nat → ClassId} {aa : gx_AA} {l : Launch} {ad : Nat → Nat} {rs : va_W} {σ : CS} {p1 : Int32} {p2 : Int32} {p3 : Int32} {q : (Int32 × CS)} (hf : fX8_issue σ p1 p2 p3 = some q) : gx_C D t (gx_E0 aa) l yX8_issue cX8_issue 4 (some .int) 5 126 [.ref (ad 0), .int p1, .int p2, .int p3] (kW aa ad t σ rs) (kW aa ad t q.2 rs) (some (.int q.1)) := by
  refine gx_intro_i (by decide) (Nat.le_of_ble_eq_true rfl) (fun J g hE0 => ?_)
  have hE : ∀ (v : Int32) (σ : CS) (pc : Nat) (L : List (Nat × Value)), some (v, σ) = some q → decode cX8_issue pc = .ok (.ireturn, 1) → narrow .int (.int v) = .int v → J 0 0 (kW aa ad t σ rs) pc L [.int v] := fun v σ pc L h h1 h2 => by cases h; exact hE0 pc L h1 h2
  unfold fX8_issue at hf
  show J 0 0 (kW aa ad t σ rs) 0 [(0, .ref (ad 0)), (1, .int p1), (2, .int p2), (3, .int p3)] []
  refine j_aload_n (pc := 0) g 0 dX8_issue_0 rfl ?_
  refine gK_X8_0_1 (σ := σ) (pc := 1) g dX8_issue_1 ?_
  refine j_aload_n (pc := 4) g 0 dX8_issue_4 rfl ?_
  refine gK_X8_0_0 (σ := σ) (pc := 5) g dX8_issue_5 ?_
  obtain ⟨r8, h_8, hf⟩ := gx_bs hf
  refine cK_X8_X2_copyFrom_5_1 (σ := σ) (pc := 8) g (cX2_copyFrom_ (ad := (fun p => ad (p + 15))) (bd := (fun p => ad (p + 1))) h_8) ⟨Nat.le_of_ble_eq_true rfl, Nat.le_of_ble_eq_true rfl⟩ ⟨Nat.zero_le _, Nat.zero_le _⟩ (Nat.le_of_ble_eq_true rfl) dX8_issue_8 ?_
  refine j_aload_n (pc := 11) g 0 dX8_issue_11 rfl ?_
  refine j_aload_n (pc := 12) g 0 dX8_issue_12 rfl ?_
  refine gK_X8_0_0 (σ := (r8.2, (r8.1, σ.2.2))) (pc := 13) g dX8_issue_13 ?_
  refine j_iload_n (pc := 16) g 1 dX8_issue_16 rfl ?_
  refine j_iload_n (pc := 17) g 2 dX8_issue_17 rfl ?_
  refine j_iload_n (pc := 18) g 3 dX8_issue_18 rfl ?_
  obtain ⟨r19, h_19, hf⟩ := gx_bs hf
  refine cK_X8_X2_giveOrder_1 (σ := (r8.2, (r8.1, σ.2.2))) (pc := 19) g (cX2_giveOrder_ (ad := (fun p => ad (p + 1))) h_19) ⟨Nat.le_of_ble_eq_true rfl, Nat.le_of_ble_eq_true rfl⟩ ⟨Nat.zero_le _, Nat.zero_le _⟩ (Nat.le_of_ble_eq_true rfl) dX8_issue_19 ?_
  obtain ⟨r22, h_22, hf⟩ := gx_bs hf
  refine cK_X8_X8_record_0 (σ := (r19.2, (r8.1, σ.2.2))) (pc := 22) g (cX8_record_ h_22) ⟨Nat.le_of_ble_eq_true rfl, Nat.le_of_ble_eq_true rfl⟩ ⟨Nat.zero_le _, Nat.zero_le _⟩ (Nat.le_of_ble_eq_true rfl) dX8_issue_22 ?_
  exact hE _ _ _ _ hf dX8_issue_25 rfl

set_option maxRecDepth 100000 in
set_option maxHeartbeats 4000000 in
theorem cX8_passHours_ {D : va_G} {t : Nat → ClassId} {aa : gx_AA} {l : Launch} {ad : Nat → Nat} {rs : va_W} {σ : CS} {p1 : Int32} {q : (Int32 × CS)} (hf : fX8_passHours σ p1 = some q) : gx_C D t (gx_E0 aa) l yX8_passHours cX8_passHours 2 (some .int) 5 126 [.ref (ad 0), .int p1] (kW aa ad t σ rs) (kW aa ad t q.2 rs) (some (.int q.1)) := by
  refine gx_intro_i (by decide) (Nat.le_of_ble_eq_true rfl) (fun J g hE0 => ?_)
  have hE : ∀ (v : Int32) (σ : CS) (pc : Nat) (L : List (Nat × Value)), some (v, σ) = some q → decode cX8_passHours pc = .ok (.ireturn, 1) → narrow .int (.int v) = .int v → J 0 0 (kW aa ad t σ rs) pc L [.int v] := fun v σ pc L h h1 h2 => by cases h; exact hE0 pc L h1 h2
  unfold fX8_passHours at hf
  show J 0 0 (kW aa ad t σ rs) 0 [(0, .ref (ad 0)), (1, .int p1)] []
  refine j_aload_n (pc := 0) g 0 dX8_passHours_0 rfl ?_
  refine gK_X8_0_1 (σ := σ) (pc := 1) g dX8_passHours_1 ?_
  refine j_aload_n (pc := 4) g 0 dX8_passHours_4 rfl ?_
  refine gK_X8_0_0 (σ := σ) (pc := 5) g dX8_passHours_5 ?_
  obtain ⟨r8, h_8, hf⟩ := gx_bs hf
  refine cK_X8_X2_copyFrom_5_1 (σ := σ) (pc := 8) g (cX2_copyFrom_ (ad := (fun p => ad (p + 15))) (bd := (fun p => ad (p + 1))) h_8) ⟨Nat.le_of_ble_eq_true rfl, Nat.le_of_ble_eq_true rfl⟩ ⟨Nat.zero_le _, Nat.zero_le _⟩ (Nat.le_of_ble_eq_true rfl) dX8_passHours_8 ?_
  refine j_aload_n (pc := 11) g 0 dX8_passHours_11 rfl ?_
  refine j_aload_n (pc := 12) g 0 dX8_passHours_12 rfl ?_
  refine gK_X8_0_0 (σ := (r8.2, (r8.1, σ.2.2))) (pc := 13) g dX8_passHours_13 ?_
  refine j_iload_n (pc := 16) g 1 dX8_passHours_16 rfl ?_
  obtain ⟨r17, h_17, hf⟩ := gx_bs hf
  refine cK_X8_X2_letHoursPass_1 (σ := (r8.2, (r8.1, σ.2.2))) (pc := 17) g (cX2_letHoursPass_ (ad := (fun p => ad (p + 1))) h_17) ⟨Nat.le_of_ble_eq_true rfl, Nat.le_of_ble_eq_true rfl⟩ ⟨Nat.zero_le _, Nat.zero_le _⟩ (Nat.le_of_ble_eq_true rfl) dX8_passHours_17 ?_
  obtain ⟨r20, h_20, hf⟩ := gx_bs hf
  refine cK_X8_X8_record_0 (σ := (r17.2, (r8.1, σ.2.2))) (pc := 20) g (cX8_record_ h_20) ⟨Nat.le_of_ble_eq_true rfl, Nat.le_of_ble_eq_true rfl⟩ ⟨Nat.zero_le _, Nat.zero_le _⟩ (Nat.le_of_ble_eq_true rfl) dX8_passHours_20 ?_
  exact hE _ _ _ _ hf dX8_passHours_23 rfl

set_option maxRecDepth 100000 in
set_option maxHeartbeats 4000000 in
theorem cX8_define_ {D : va_G} {t : Nat → ClassId} {aa : gx_AA} {l : Launch} {ad : Nat → Nat} {rs : va_W} {σ : CS} {p1 : Int32} {p2 : Int32} {p3 : Int32} {q : (Int32 × CS)} (hf : fX8_define σ p1 p2 p3 = some q) : gx_C D t (gx_E0 aa) l yX8_define cX8_define 4 (some .int) 5 126 [.ref (ad 0), .int p1, .int p2, .int p3] (kW aa ad t σ rs) (kW aa ad t q.2 rs) (some (.int q.1)) := by
  refine gx_intro_i (by decide) (Nat.le_of_ble_eq_true rfl) (fun J g hE0 => ?_)
  have hE : ∀ (v : Int32) (σ : CS) (pc : Nat) (L : List (Nat × Value)), some (v, σ) = some q → decode cX8_define pc = .ok (.ireturn, 1) → narrow .int (.int v) = .int v → J 0 0 (kW aa ad t σ rs) pc L [.int v] := fun v σ pc L h h1 h2 => by cases h; exact hE0 pc L h1 h2
  unfold fX8_define at hf
  show J 0 0 (kW aa ad t σ rs) 0 [(0, .ref (ad 0)), (1, .int p1), (2, .int p2), (3, .int p3)] []
  refine j_aload_n (pc := 0) g 0 dX8_define_0 rfl ?_
  refine gK_X8_0_1 (σ := σ) (pc := 1) g dX8_define_1 ?_
  refine j_aload_n (pc := 4) g 0 dX8_define_4 rfl ?_
  refine gK_X8_0_0 (σ := σ) (pc := 5) g dX8_define_5 ?_
  obtain ⟨r8, h_8, hf⟩ := gx_bs hf
  refine cK_X8_X2_copyFrom_5_1 (σ := σ) (pc := 8) g (cX2_copyFrom_ (ad := (fun p => ad (p + 15))) (bd := (fun p => ad (p + 1))) h_8) ⟨Nat.le_of_ble_eq_true rfl, Nat.le_of_ble_eq_true rfl⟩ ⟨Nat.zero_le _, Nat.zero_le _⟩ (Nat.le_of_ble_eq_true rfl) dX8_define_8 ?_
  refine j_aload_n (pc := 11) g 0 dX8_define_11 rfl ?_
  refine j_aload_n (pc := 12) g 0 dX8_define_12 rfl ?_
  refine gK_X8_0_0 (σ := (r8.2, (r8.1, σ.2.2))) (pc := 13) g dX8_define_13 ?_
  refine gK_X8_1_2 (σ := (r8.2, (r8.1, σ.2.2))) (pc := 16) g dX8_define_16 ?_
  refine j_iload_n (pc := 19) g 1 dX8_define_19 rfl ?_
  refine j_iload_n (pc := 20) g 2 dX8_define_20 rfl ?_
  refine j_iload_n (pc := 21) g 3 dX8_define_21 rfl ?_
  obtain ⟨r22, h_22, hf⟩ := gx_bs hf
  refine cK_X8_X0_assign_4 (σ := (r8.2, (r8.1, σ.2.2))) (pc := 22) g (cX0_assign_ (ad := (fun p => ad (p + 12))) h_22) ⟨Nat.le_of_ble_eq_true rfl, Nat.le_of_ble_eq_true rfl⟩ ⟨Nat.zero_le _, Nat.zero_le _⟩ (Nat.le_of_ble_eq_true rfl) dX8_define_22 ?_
  obtain ⟨r25, h_25, hf⟩ := gx_bs hf
  refine cK_X8_X8_record_0 (σ := ((r8.2.1, (r8.2.2.1, (r8.2.2.2.1, r22.2))), (r8.1, σ.2.2))) (pc := 25) g (cX8_record_ h_25) ⟨Nat.le_of_ble_eq_true rfl, Nat.le_of_ble_eq_true rfl⟩ ⟨Nat.zero_le _, Nat.zero_le _⟩ (Nat.le_of_ble_eq_true rfl) dX8_define_25 ?_
  exact hE _ _ _ _ hf dX8_define_28 rfl

set_option maxRecDepth 100000 in
set_option maxHeartbeats 4000000 in
theorem cX8_erase_ {D : va_G} {t : Nat → ClassId} {aa : gx_AA} {l : Launch} {ad : Nat → Nat} {rs : va_W} {σ : CS} {p1 : Int32} {p2 : Int32} {q : (Int32 × CS)} (hf : fX8_erase σ p1 p2 = some q) : gx_C D t (gx_E0 aa) l yX8_erase cX8_erase 3 (some .int) 5 126 [.ref (ad 0), .int p1, .int p2] (kW aa ad t σ rs) (kW aa ad t q.2 rs) (some (.int q.1)) := by
  refine gx_intro_i (by decide) (Nat.le_of_ble_eq_true rfl) (fun J g hE0 => ?_)
  have hE : ∀ (v : Int32) (σ : CS) (pc : Nat) (L : List (Nat × Value)), some (v, σ) = some q → decode cX8_erase pc = .ok (.ireturn, 1) → narrow .int (.int v) = .int v → J 0 0 (kW aa ad t σ rs) pc L [.int v] := fun v σ pc L h h1 h2 => by cases h; exact hE0 pc L h1 h2
  unfold fX8_erase at hf
  show J 0 0 (kW aa ad t σ rs) 0 [(0, .ref (ad 0)), (1, .int p1), (2, .int p2)] []
  refine j_aload_n (pc := 0) g 0 dX8_erase_0 rfl ?_
  refine gK_X8_0_1 (σ := σ) (pc := 1) g dX8_erase_1 ?_
  refine j_aload_n (pc := 4) g 0 dX8_erase_4 rfl ?_
  refine gK_X8_0_0 (σ := σ) (pc := 5) g dX8_erase_5 ?_
  obtain ⟨r8, h_8, hf⟩ := gx_bs hf
  refine cK_X8_X2_copyFrom_5_1 (σ := σ) (pc := 8) g (cX2_copyFrom_ (ad := (fun p => ad (p + 15))) (bd := (fun p => ad (p + 1))) h_8) ⟨Nat.le_of_ble_eq_true rfl, Nat.le_of_ble_eq_true rfl⟩ ⟨Nat.zero_le _, Nat.zero_le _⟩ (Nat.le_of_ble_eq_true rfl) dX8_erase_8 ?_
  refine j_aload_n (pc := 11) g 0 dX8_erase_11 rfl ?_
  refine j_aload_n (pc := 12) g 0 dX8_erase_12 rfl ?_
  refine gK_X8_0_0 (σ := (r8.2, (r8.1, σ.2.2))) (pc := 13) g dX8_erase_13 ?_
  refine gK_X8_1_2 (σ := (r8.2, (r8.1, σ.2.2))) (pc := 16) g dX8_erase_16 ?_
  refine j_iload_n (pc := 19) g 1 dX8_erase_19 rfl ?_
  refine j_iload_n (pc := 20) g 2 dX8_erase_20 rfl ?_
  obtain ⟨r21, h_21, hf⟩ := gx_bs hf
  refine cK_X8_X0_remove_4 (σ := (r8.2, (r8.1, σ.2.2))) (pc := 21) g (cX0_remove_ (ad := (fun p => ad (p + 12))) h_21) ⟨Nat.le_of_ble_eq_true rfl, Nat.le_of_ble_eq_true rfl⟩ ⟨Nat.zero_le _, Nat.zero_le _⟩ (Nat.le_of_ble_eq_true rfl) dX8_erase_21 ?_
  obtain ⟨r24, h_24, hf⟩ := gx_bs hf
  refine cK_X8_X8_record_0 (σ := ((r8.2.1, (r8.2.2.1, (r8.2.2.2.1, r21.2))), (r8.1, σ.2.2))) (pc := 24) g (cX8_record_ h_24) ⟨Nat.le_of_ble_eq_true rfl, Nat.le_of_ble_eq_true rfl⟩ ⟨Nat.zero_le _, Nat.zero_le _⟩ (Nat.le_of_ble_eq_true rfl) dX8_erase_24 ?_
  exact hE _ _ _ _ hf dX8_erase_27 rfl
theorem cK_X8_X8_requireOfficer_0 {D : va_G} {t : Nat → ClassId} {aa : gx_AA} {l : Launch} {R : Room} {cc : ByteArray} {nL : Nat} {J : gx_J} {ad : Nat → Nat} {rs : va_W} {k n pc : Nat} {L : List (Nat × Value)} {rest : List Value} (g : gx_G D t (gx_E0 aa) l R cc RX8 nL J) {σ : CS} {x0 : Int32} {q : CS} {fr lo : Nat} (hC : gx_C D t (gx_E0 aa) l yX8_requireOfficer cX8_requireOfficer 2 none fr lo [.ref (ad 0), .int x0] (kW aa ad t σ rs) (kW aa ad t q rs) none) (hR : fr + 1 ≤ R.frames ∧ 8 + (2 + 11) + lo ≤ R.locals) (hkn : k ≤ R.cells ∧ n ≤ R.slots) (hcat : (rest.map fun v => v.category).sum ≤ 8) (hd : decode cc pc = .ok (.invokevirtual 114, 3)) (kk : J k n (kW aa ad t q rs) (pc + 3) L (rest)) : J k n (kW aa ad t σ rs) pc L (.int x0 :: .ref (ad 0) :: rest) := j_callVv (na := 1) (As := [.int x0]) (q0 := 0) (ci := 9) g hC q_i_X8_requireOfficer q_s_X8_requireOfficer rfl rfl rfl q_c_X8_requireOfficer q_l_X8_114 q_n_X8 (by decide +kernel) rfl hR hkn hcat (.refl _) (.refl _) hd kk rfl
theorem gK_X8_2_0 {D : va_G} {t : Nat → ClassId} {aa : gx_AA} {l : Launch} {R : Room} {cc : ByteArray} {nL : Nat} {J : gx_J} {ad : Nat → Nat} {rs : va_W} {k n pc : Nat} {L : List (Nat × Value)} {st : List Value} (g : gx_G D t (gx_E0 aa) l R cc RX8 nL J) {σ : CS} (hd : decode cc pc = .ok (.getfield 118, 3)) (kk : J k n (kW aa ad t σ rs) (pc + 3) L (.ref (ad 3) :: st)) : J k n (kW aa ad t σ rs) pc L (.ref (ad 2) :: st) := j_get g in_X3 2 rfl rfl 0 (by decide) q_f_X8_118 rfl rfl hd kk
theorem lK_X8_2_0 {D : va_G} {t : Nat → ClassId} {aa : gx_AA} {l : Launch} {R : Room} {cc : ByteArray} {nL : Nat} {J : gx_J} {ad : Nat → Nat} {rs : va_W} {k n pc : Nat} {L : List (Nat × Value)} {st : List Value} (g : gx_G D t (gx_E0 aa) l R cc RX8 nL J) {σ : CS} {i : Int32} (hin : gx_in i 12) (hd : decode cc pc = .ok (.iaload, 1)) (kk : J k n (kW aa ad t σ rs) (pc + 1) L (.int (os_a σ.1.2.1 0 i.toNatClampNeg) :: st)) : J k n (kW aa ad t σ rs) pc L (.int i :: .ref (ad 3) :: st) := j_iald g 3 rfl hin hd kk
set_option maxRecDepth 100000 in
set_option maxHeartbeats 4000000 in
theorem cX8_rank_ {D : va_G} {t : Nat → ClassId} {aa : gx_AA} {l : Launch} {ad : Nat → Nat} {rs : va_W} {σ : CS} {p1 : Int32} {q : (Int32 × CS)} (hf : fX8_rank σ p1 = some q) : gx_C D t (gx_E0 aa) l yX8_rank cX8_rank 2 (some .int) 2 42 [.ref (ad 0), .int p1] (kW aa ad t σ rs) (kW aa ad t q.2 rs) (some (.int q.1)) := by
  refine gx_intro_i (by decide) (Nat.le_of_ble_eq_true rfl) (fun J g hE0 => ?_)
  have hE : ∀ (v : Int32) (σ : CS) (pc : Nat) (L : List (Nat × Value)), some (v, σ) = some q → decode cX8_rank pc = .ok (.ireturn, 1) → narrow .int (.int v) = .int v → J 0 0 (kW aa ad t σ rs) pc L [.int v] := fun v σ pc L h h1 h2 => by cases h; exact hE0 pc L h1 h2
  unfold fX8_rank at hf
  show J 0 0 (kW aa ad t σ rs) 0 [(0, .ref (ad 0)), (1, .int p1)] []
  refine j_aload_n (pc := 0) g 0 dX8_rank_0 rfl ?_
  refine j_iload_n (pc := 1) g 1 dX8_rank_1 rfl ?_
  obtain ⟨r2, h_2, hf⟩ := gx_bs hf
  refine cK_X8_X8_requireOfficer_0 (σ := σ) (pc := 2) g (cX8_requireOfficer_ h_2) ⟨Nat.le_of_ble_eq_true rfl, Nat.le_of_ble_eq_true rfl⟩ ⟨Nat.zero_le _, Nat.zero_le _⟩ (Nat.le_of_ble_eq_true rfl) dX8_rank_2 ?_
  refine j_aload_n (pc := 5) g 0 dX8_rank_5 rfl ?_
  refine gK_X8_0_0 (σ := r2) (pc := 6) g dX8_rank_6 ?_
  refine gK_X8_1_0 (σ := r2) (pc := 9) g dX8_rank_9 ?_
  refine gK_X8_2_0 (σ := r2) (pc := 12) g dX8_rank_12 ?_
  refine j_iload_n (pc := 15) g 1 dX8_rank_15 rfl ?_
  obtain ⟨h_16, hf⟩ := gx_ck hf
  refine lK_X8_2_0 (σ := r2) (pc := 16) g h_16 dX8_rank_16 ?_
  exact hE _ _ _ _ hf dX8_rank_17 rfl
theorem gK_X8_2_1 {D : va_G} {t : Nat → ClassId} {aa : gx_AA} {l : Launch} {R : Room} {cc : ByteArray} {nL : Nat} {J : gx_J} {ad : Nat → Nat} {rs : va_W} {k n pc : Nat} {L : List (Nat × Value)} {st : List Value} (g : gx_G D t (gx_E0 aa) l R cc RX8 nL J) {σ : CS} (hd : decode cc pc = .ok (.getfield 122, 3)) (kk : J k n (kW aa ad t σ rs) (pc + 3) L (.ref (ad 4) :: st)) : J k n (kW aa ad t σ rs) pc L (.ref (ad 2) :: st) := j_get g in_X3 2 rfl rfl 1 (by decide) q_f_X8_122 rfl rfl hd kk
theorem lK_X8_2_1 {D : va_G} {t : Nat → ClassId} {aa : gx_AA} {l : Launch} {R : Room} {cc : ByteArray} {nL : Nat} {J : gx_J} {ad : Nat → Nat} {rs : va_W} {k n pc : Nat} {L : List (Nat × Value)} {st : List Value} (g : gx_G D t (gx_E0 aa) l R cc RX8 nL J) {σ : CS} {i : Int32} (hin : gx_in i 12) (hd : decode cc pc = .ok (.iaload, 1)) (kk : J k n (kW aa ad t σ rs) (pc + 1) L (.int (os_a σ.1.2.1 1 i.toNatClampNeg) :: st)) : J k n (kW aa ad t σ rs) pc L (.int i :: .ref (ad 4) :: st) := j_iald g 4 rfl hin hd kk
set_option maxRecDepth 100000 in
set_option maxHeartbeats 4000000 in
theorem cX8_loyalty_ {D : va_G} {t : Nat → ClassId} {aa : gx_AA} {l : Launch} {ad : Nat → Nat} {rs : va_W} {σ : CS} {p1 : Int32} {q : (Int32 × CS)} (hf : fX8_loyalty σ p1 = some q) : gx_C D t (gx_E0 aa) l yX8_loyalty cX8_loyalty 2 (some .int) 2 42 [.ref (ad 0), .int p1] (kW aa ad t σ rs) (kW aa ad t q.2 rs) (some (.int q.1)) := by
  refine gx_intro_i (by decide) (Nat.le_of_ble_eq_true rfl) (fun J g hE0 => ?_)
  have hE : ∀ (v : Int32) (σ : CS) (pc : Nat) (L : List (Nat × Value)), some (v, σ) = some q → decode cX8_loyalty pc = .ok (.ireturn, 1) → narrow .int (.int v) = .int v → J 0 0 (kW aa ad t σ rs) pc L [.int v] := fun v σ pc L h h1 h2 => by cases h; exact hE0 pc L h1 h2
  unfold fX8_loyalty at hf
  show J 0 0 (kW aa ad t σ rs) 0 [(0, .ref (ad 0)), (1, .int p1)] []
  refine j_aload_n (pc := 0) g 0 dX8_loyalty_0 rfl ?_
  refine j_iload_n (pc := 1) g 1 dX8_loyalty_1 rfl ?_
  obtain ⟨r2, h_2, hf⟩ := gx_bs hf
  refine cK_X8_X8_requireOfficer_0 (σ := σ) (pc := 2) g (cX8_requireOfficer_ h_2) ⟨Nat.le_of_ble_eq_true rfl, Nat.le_of_ble_eq_true rfl⟩ ⟨Nat.zero_le _, Nat.zero_le _⟩ (Nat.le_of_ble_eq_true rfl) dX8_loyalty_2 ?_
  refine j_aload_n (pc := 5) g 0 dX8_loyalty_5 rfl ?_
  refine gK_X8_0_0 (σ := r2) (pc := 6) g dX8_loyalty_6 ?_
  refine gK_X8_1_0 (σ := r2) (pc := 9) g dX8_loyalty_9 ?_
  refine gK_X8_2_1 (σ := r2) (pc := 12) g dX8_loyalty_12 ?_
  refine j_iload_n (pc := 15) g 1 dX8_loyalty_15 rfl ?_
  obtain ⟨h_16, hf⟩ := gx_ck hf
  refine lK_X8_2_1 (σ := r2) (pc := 16) g h_16 dX8_loyalty_16 ?_
  exact hE _ _ _ _ hf dX8_loyalty_17 rfl
theorem gK_X8_2_2 {D : va_G} {t : Nat → ClassId} {aa : gx_AA} {l : Launch} {R : Room} {cc : ByteArray} {nL : Nat} {J : gx_J} {ad : Nat → Nat} {rs : va_W} {k n pc : Nat} {L : List (Nat × Value)} {st : List Value} (g : gx_G D t (gx_E0 aa) l R cc RX8 nL J) {σ : CS} (hd : decode cc pc = .ok (.getfield 125, 3)) (kk : J k n (kW aa ad t σ rs) (pc + 3) L (.ref (ad 5) :: st)) : J k n (kW aa ad t σ rs) pc L (.ref (ad 2) :: st) := j_get g in_X3 2 rfl rfl 2 (by decide) q_f_X8_125 rfl rfl hd kk
theorem lK_X8_2_2 {D : va_G} {t : Nat → ClassId} {aa : gx_AA} {l : Launch} {R : Room} {cc : ByteArray} {nL : Nat} {J : gx_J} {ad : Nat → Nat} {rs : va_W} {k n pc : Nat} {L : List (Nat × Value)} {st : List Value} (g : gx_G D t (gx_E0 aa) l R cc RX8 nL J) {σ : CS} {i : Int32} (hin : gx_in i 12) (hd : decode cc pc = .ok (.iaload, 1)) (kk : J k n (kW aa ad t σ rs) (pc + 1) L (.int (os_a σ.1.2.1 2 i.toNatClampNeg) :: st)) : J k n (kW aa ad t σ rs) pc L (.int i :: .ref (ad 5) :: st) := j_iald g 5 rfl hin hd kk
set_option maxRecDepth 100000 in
set_option maxHeartbeats 4000000 in
theorem cX8_refusals_ {D : va_G} {t : Nat → ClassId} {aa : gx_AA} {l : Launch} {ad : Nat → Nat} {rs : va_W} {σ : CS} {p1 : Int32} {q : (Int32 × CS)} (hf : fX8_refusals σ p1 = some q) : gx_C D t (gx_E0 aa) l yX8_refusals cX8_refusals 2 (some .int) 2 42 [.ref (ad 0), .int p1] (kW aa ad t σ rs) (kW aa ad t q.2 rs) (some (.int q.1)) := by
  refine gx_intro_i (by decide) (Nat.le_of_ble_eq_true rfl) (fun J g hE0 => ?_)
  have hE : ∀ (v : Int32) (σ : CS) (pc : Nat) (L : List (Nat × Value)), some (v, σ) = some q → decode cX8_refusals pc = .ok (.ireturn, 1) → narrow .int (.int v) = .int v → J 0 0 (kW aa ad t σ rs) pc L [.int v] := fun v σ pc L h h1 h2 => by cases h; exact hE0 pc L h1 h2
  unfold fX8_refusals at hf
  show J 0 0 (kW aa ad t σ rs) 0 [(0, .ref (ad 0)), (1, .int p1)] []
  refine j_aload_n (pc := 0) g 0 dX8_refusals_0 rfl ?_
  refine j_iload_n (pc := 1) g 1 dX8_refusals_1 rfl ?_
  obtain ⟨r2, h_2, hf⟩ := gx_bs hf
  refine cK_X8_X8_requireOfficer_0 (σ := σ) (pc := 2) g (cX8_requireOfficer_ h_2) ⟨Nat.le_of_ble_eq_true rfl, Nat.le_of_ble_eq_true rfl⟩ ⟨Nat.zero_le _, Nat.zero_le _⟩ (Nat.le_of_ble_eq_true rfl) dX8_refusals_2 ?_
  refine j_aload_n (pc := 5) g 0 dX8_refusals_5 rfl ?_
  refine gK_X8_0_0 (σ := r2) (pc := 6) g dX8_refusals_6 ?_
  refine gK_X8_1_0 (σ := r2) (pc := 9) g dX8_refusals_9 ?_
  refine gK_X8_2_2 (σ := r2) (pc := 12) g dX8_refusals_12 ?_
  refine j_iload_n (pc := 15) g 1 dX8_refusals_15 rfl ?_
  obtain ⟨h_16, hf⟩ := gx_ck hf
  refine lK_X8_2_2 (σ := r2) (pc := 16) g h_16 dX8_refusals_16 ?_
  exact hE _ _ _ _ hf dX8_refusals_17 rfl
theorem gK_X8_2_3 {D : va_G} {t : Nat → ClassId} {aa : gx_AA} {l : Launch} {R : Room} {cc : ByteArray} {nL : Nat} {J : gx_J} {ad : Nat → Nat} {rs : va_W} {k n pc : Nat} {L : List (Nat × Value)} {st : List Value} (g : gx_G D t (gx_E0 aa) l R cc RX8 nL J) {σ : CS} (hd : decode cc pc = .ok (.getfield 135, 3)) (kk : J k n (kW aa ad t σ rs) (pc + 3) L (.ref (ad 6) :: st)) : J k n (kW aa ad t σ rs) pc L (.ref (ad 2) :: st) := j_get g in_X3 2 rfl rfl 3 (by decide) q_f_X8_135 rfl rfl hd kk
theorem lK_X8_2_3 {D : va_G} {t : Nat → ClassId} {aa : gx_AA} {l : Launch} {R : Room} {cc : ByteArray} {nL : Nat} {J : gx_J} {ad : Nat → Nat} {rs : va_W} {k n pc : Nat} {L : List (Nat × Value)} {st : List Value} (g : gx_G D t (gx_E0 aa) l R cc RX8 nL J) {σ : CS} {i : Int32} (hin : gx_in i 12) (hd : decode cc pc = .ok (.iaload, 1)) (kk : J k n (kW aa ad t σ rs) (pc + 1) L (.int (os_a σ.1.2.1 3 i.toNatClampNeg) :: st)) : J k n (kW aa ad t σ rs) pc L (.int i :: .ref (ad 6) :: st) := j_iald g 6 rfl hin hd kk
set_option maxRecDepth 100000 in
set_option maxHeartbeats 4000000 in
theorem cX8_superior_ {D : va_G} {t : Nat → ClassId} {aa : gx_AA} {l : Launch} {ad : Nat → Nat} {rs : va_W} {σ : CS} {p1 : Int32} {q : (Int32 × CS)} (hf : fX8_superior σ p1 = some q) : gx_C D t (gx_E0 aa) l yX8_superior cX8_superior 2 (some .int) 2 42 [.ref (ad 0), .int p1] (kW aa ad t σ rs) (kW aa ad t q.2 rs) (some (.int q.1)) := by
  refine gx_intro_i (by decide) (Nat.le_of_ble_eq_true rfl) (fun J g hE0 => ?_)
  have hE : ∀ (v : Int32) (σ : CS) (pc : Nat) (L : List (Nat × Value)), some (v, σ) = some q → decode cX8_superior pc = .ok (.ireturn, 1) → narrow .int (.int v) = .int v → J 0 0 (kW aa ad t σ rs) pc L [.int v] := fun v σ pc L h h1 h2 => by cases h; exact hE0 pc L h1 h2
  unfold fX8_superior at hf
  show J 0 0 (kW aa ad t σ rs) 0 [(0, .ref (ad 0)), (1, .int p1)] []
  refine j_aload_n (pc := 0) g 0 dX8_superior_0 rfl ?_
  refine j_iload_n (pc := 1) g 1 dX8_superior_1 rfl ?_
  obtain ⟨r2, h_2, hf⟩ := gx_bs hf
  refine cK_X8_X8_requireOfficer_0 (σ := σ) (pc := 2) g (cX8_requireOfficer_ h_2) ⟨Nat.le_of_ble_eq_true rfl, Nat.le_of_ble_eq_true rfl⟩ ⟨Nat.zero_le _, Nat.zero_le _⟩ (Nat.le_of_ble_eq_true rfl) dX8_superior_2 ?_
  refine j_iload_n (pc := 5) g 1 dX8_superior_5 rfl ?_
  refine j_if_ne (tgt := 19) (pc := 6) g dX8_superior_6 (by decide) (fun c_6 => ?_) (fun c_6 => ?_)
  · have hf := gx_if c_6 hf
    refine j_aload_n (pc := 19) g 0 dX8_superior_19 rfl ?_
    refine gK_X8_0_0 (σ := r2) (pc := 20) g dX8_superior_20 ?_
    refine gK_X8_1_0 (σ := r2) (pc := 23) g dX8_superior_23 ?_
    refine gK_X8_2_3 (σ := r2) (pc := 26) g dX8_superior_26 ?_
    refine j_iload_n (pc := 29) g 1 dX8_superior_29 rfl ?_
    obtain ⟨h_30, hf⟩ := gx_ck hf
    refine lK_X8_2_3 (σ := r2) (pc := 30) g h_30 dX8_superior_30 ?_
    exact hE _ _ _ _ hf dX8_superior_31 rfl
  · have hf := gx_it c_6 hf
    cases hf
theorem cK_X8_X3_countSubordinates_2 {D : va_G} {t : Nat → ClassId} {aa : gx_AA} {l : Launch} {R : Room} {cc : ByteArray} {nL : Nat} {J : gx_J} {ad : Nat → Nat} {rs : va_W} {k n pc : Nat} {L : List (Nat × Value)} {rest : List Value} (g : gx_G D t (gx_E0 aa) l R cc RX8 nL J) {σ : CS} {x0 : Int32} {q : Int32} {fr lo : Nat} (hC : gx_C D t (gx_E0 aa) l yX3_countSubordinates cX3_countSubordinates 4 (some .int) fr lo [.ref (ad 2), .int x0] (oC (fun p => ad (p + 2)) t σ.1.2.1 ++ (((ad (0 + 1), .inr (4, [.ref (ad (1 + 1)), .ref (ad (7 + 1)), .ref (ad (11 + 1)), .int (os_f σ.1.1 3), .int (os_f σ.1.1 4), .int (os_f σ.1.1 5), .int (os_f σ.1.1 6)])) :: (dC (fun p => ad (p + 8)) t σ.1.2.2.1 ++ bC (fun p => ad (p + 12)) t σ.1.2.2.2)) ++ ([kc0 ad σ.2.2.2.2.2.2.2] ++ (nC (fun p => ad (p + 15)) t σ.2.1 ++ (nC (fun p => ad (p + 29)) t σ.2.2.1 ++ (sC aa (fun p => ad (p + 43)) t (σ.2.2.2.1, σ.2.2.2.2.1) ++ (xC (fun p => ad (p + 46)) t σ.2.2.2.2.2.1 ++ (rC (fun p => ad (p + 48)) t σ.2.2.2.2.2.2.1 ++ rs)))))))) (oC (fun p => ad (p + 2)) t σ.1.2.1 ++ (((ad (0 + 1), .inr (4, [.ref (ad (1 + 1)), .ref (ad (7 + 1)), .ref (ad (11 + 1)), .int (os_f σ.1.1 3), .int (os_f σ.1.1 4), .int (os_f σ.1.1 5), .int (os_f σ.1.1 6)])) :: (dC (fun p => ad (p + 8)) t σ.1.2.2.1 ++ bC (fun p => ad (p + 12)) t σ.1.2.2.2)) ++ ([kc0 ad σ.2.2.2.2.2.2.2] ++ (nC (fun p => ad (p + 15)) t σ.2.1 ++ (nC (fun p => ad (p + 29)) t σ.2.2.1 ++ (sC aa (fun p => ad (p + 43)) t (σ.2.2.2.1, σ.2.2.2.2.1) ++ (xC (fun p => ad (p + 46)) t σ.2.2.2.2.2.1 ++ (rC (fun p => ad (p + 48)) t σ.2.2.2.2.2.2.1 ++ rs)))))))) (some (.int q))) (hR : fr + 1 ≤ R.frames ∧ 8 + (4 + 11) + lo ≤ R.locals) (hkn : k ≤ R.cells ∧ n ≤ R.slots) (hcat : (rest.map fun v => v.category).sum ≤ 8) (hd : decode cc pc = .ok (.invokevirtual 138, 3)) (kk : J k n (kW aa ad t σ rs) (pc + 3) L (.int q :: rest)) : J k n (kW aa ad t σ rs) pc L (.int x0 :: .ref (ad 2) :: rest) := j_callVi (na := 1) (As := [.int x0]) (q0 := 2) (ci := 5) g hC q_i_X3_countSubordinates q_s_X3_countSubordinates rfl rfl rfl q_c_X3_countSubordinates q_l_X8_138 q_n_X3 (by decide +kernel) rfl hR hkn hcat (((pb1 ([kc0 ad σ.2.2.2.2.2.2.2]) (nC (fun p => ad (p + 1)) t σ.1) (nC (fun p => ad (p + 15)) t σ.2.1 ++ (nC (fun p => ad (p + 29)) t σ.2.2.1 ++ (sC aa (fun p => ad (p + 43)) t (σ.2.2.2.1, σ.2.2.2.2.1) ++ (xC (fun p => ad (p + 46)) t σ.2.2.2.2.2.1 ++ (rC (fun p => ad (p + 48)) t σ.2.2.2.2.2.2.1 ++ rs))))))).trans (pm_n1 (fun p => ad (p + 1)) t σ.1 ([kc0 ad σ.2.2.2.2.2.2.2] ++ (nC (fun p => ad (p + 15)) t σ.2.1 ++ (nC (fun p => ad (p + 29)) t σ.2.2.1 ++ (sC aa (fun p => ad (p + 43)) t (σ.2.2.2.1, σ.2.2.2.2.1) ++ (xC (fun p => ad (p + 46)) t σ.2.2.2.2.2.1 ++ (rC (fun p => ad (p + 48)) t σ.2.2.2.2.2.2.1 ++ rs)))))))) ((((pb1 ([kc0 ad σ.2.2.2.2.2.2.2]) (nC (fun p => ad (p + 1)) t σ.1) (nC (fun p => ad (p + 15)) t σ.2.1 ++ (nC (fun p => ad (p + 29)) t σ.2.2.1 ++ (sC aa (fun p => ad (p + 43)) t (σ.2.2.2.1, σ.2.2.2.2.1) ++ (xC (fun p => ad (p + 46)) t σ.2.2.2.2.2.1 ++ (rC (fun p => ad (p + 48)) t σ.2.2.2.2.2.2.1 ++ rs))))))).trans (pm_n1 (fun p => ad (p + 1)) t σ.1 ([kc0 ad σ.2.2.2.2.2.2.2] ++ (nC (fun p => ad (p + 15)) t σ.2.1 ++ (nC (fun p => ad (p + 29)) t σ.2.2.1 ++ (sC aa (fun p => ad (p + 43)) t (σ.2.2.2.1, σ.2.2.2.2.1) ++ (xC (fun p => ad (p + 46)) t σ.2.2.2.2.2.1 ++ (rC (fun p => ad (p + 48)) t σ.2.2.2.2.2.2.1 ++ rs))))))))).symm hd kk rfl
set_option maxRecDepth 100000 in
set_option maxHeartbeats 4000000 in
theorem cX8_subordinates_ {D : va_G} {t : Nat → ClassId} {aa : gx_AA} {l : Launch} {ad : Nat → Nat} {rs : va_W} {σ : CS} {p1 : Int32} {q : (Int32 × CS)} (hf : fX8_subordinates σ p1 = some q) : gx_C D t (gx_E0 aa) l yX8_subordinates cX8_subordinates 2 (some .int) 2 42 [.ref (ad 0), .int p1] (kW aa ad t σ rs) (kW aa ad t q.2 rs) (some (.int q.1)) := by
  refine gx_intro_i (by decide) (Nat.le_of_ble_eq_true rfl) (fun J g hE0 => ?_)
  have hE : ∀ (v : Int32) (σ : CS) (pc : Nat) (L : List (Nat × Value)), some (v, σ) = some q → decode cX8_subordinates pc = .ok (.ireturn, 1) → narrow .int (.int v) = .int v → J 0 0 (kW aa ad t σ rs) pc L [.int v] := fun v σ pc L h h1 h2 => by cases h; exact hE0 pc L h1 h2
  unfold fX8_subordinates at hf
  show J 0 0 (kW aa ad t σ rs) 0 [(0, .ref (ad 0)), (1, .int p1)] []
  refine j_aload_n (pc := 0) g 0 dX8_subordinates_0 rfl ?_
  refine j_iload_n (pc := 1) g 1 dX8_subordinates_1 rfl ?_
  obtain ⟨r2, h_2, hf⟩ := gx_bs hf
  refine cK_X8_X8_requireOfficer_0 (σ := σ) (pc := 2) g (cX8_requireOfficer_ h_2) ⟨Nat.le_of_ble_eq_true rfl, Nat.le_of_ble_eq_true rfl⟩ ⟨Nat.zero_le _, Nat.zero_le _⟩ (Nat.le_of_ble_eq_true rfl) dX8_subordinates_2 ?_
  refine j_aload_n (pc := 5) g 0 dX8_subordinates_5 rfl ?_
  refine gK_X8_0_0 (σ := r2) (pc := 6) g dX8_subordinates_6 ?_
  refine gK_X8_1_0 (σ := r2) (pc := 9) g dX8_subordinates_9 ?_
  refine j_iload_n (pc := 12) g 1 dX8_subordinates_12 rfl ?_
  obtain ⟨r13, h_13, hf⟩ := gx_bs hf
  refine cK_X8_X3_countSubordinates_2 (σ := r2) (pc := 13) g (cX3_countSubordinates_ (ad := (fun p => ad (p + 2))) h_13) ⟨Nat.le_of_ble_eq_true rfl, Nat.le_of_ble_eq_true rfl⟩ ⟨Nat.zero_le _, Nat.zero_le _⟩ (Nat.le_of_ble_eq_true rfl) dX8_subordinates_13 ?_
  exact hE _ _ _ _ hf dX8_subordinates_16 rfl
theorem cK_X8_X3_climbDepth_2 {D : va_G} {t : Nat → ClassId} {aa : gx_AA} {l : Launch} {R : Room} {cc : ByteArray} {nL : Nat} {J : gx_J} {ad : Nat → Nat} {rs : va_W} {k n pc : Nat} {L : List (Nat × Value)} {rest : List Value} (g : gx_G D t (gx_E0 aa) l R cc RX8 nL J) {σ : CS} {x0 : Int32} {q : Int32} {fr lo : Nat} (hC : gx_C D t (gx_E0 aa) l yX3_climbDepth cX3_climbDepth 4 (some .int) fr lo [.ref (ad 2), .int x0] (oC (fun p => ad (p + 2)) t σ.1.2.1 ++ (((ad (0 + 1), .inr (4, [.ref (ad (1 + 1)), .ref (ad (7 + 1)), .ref (ad (11 + 1)), .int (os_f σ.1.1 3), .int (os_f σ.1.1 4), .int (os_f σ.1.1 5), .int (os_f σ.1.1 6)])) :: (dC (fun p => ad (p + 8)) t σ.1.2.2.1 ++ bC (fun p => ad (p + 12)) t σ.1.2.2.2)) ++ ([kc0 ad σ.2.2.2.2.2.2.2] ++ (nC (fun p => ad (p + 15)) t σ.2.1 ++ (nC (fun p => ad (p + 29)) t σ.2.2.1 ++ (sC aa (fun p => ad (p + 43)) t (σ.2.2.2.1, σ.2.2.2.2.1) ++ (xC (fun p => ad (p + 46)) t σ.2.2.2.2.2.1 ++ (rC (fun p => ad (p + 48)) t σ.2.2.2.2.2.2.1 ++ rs)))))))) (oC (fun p => ad (p + 2)) t σ.1.2.1 ++ (((ad (0 + 1), .inr (4, [.ref (ad (1 + 1)), .ref (ad (7 + 1)), .ref (ad (11 + 1)), .int (os_f σ.1.1 3), .int (os_f σ.1.1 4), .int (os_f σ.1.1 5), .int (os_f σ.1.1 6)])) :: (dC (fun p => ad (p + 8)) t σ.1.2.2.1 ++ bC (fun p => ad (p + 12)) t σ.1.2.2.2)) ++ ([kc0 ad σ.2.2.2.2.2.2.2] ++ (nC (fun p => ad (p + 15)) t σ.2.1 ++ (nC (fun p => ad (p + 29)) t σ.2.2.1 ++ (sC aa (fun p => ad (p + 43)) t (σ.2.2.2.1, σ.2.2.2.2.1) ++ (xC (fun p => ad (p + 46)) t σ.2.2.2.2.2.1 ++ (rC (fun p => ad (p + 48)) t σ.2.2.2.2.2.2.1 ++ rs)))))))) (some (.int q))) (hR : fr + 1 ≤ R.frames ∧ 8 + (4 + 11) + lo ≤ R.locals) (hkn : k ≤ R.cells ∧ n ≤ R.slots) (hcat : (rest.map fun v => v.category).sum ≤ 8) (hd : decode cc pc = .ok (.invokevirtual 141, 3)) (kk : J k n (kW aa ad t σ rs) (pc + 3) L (.int q :: rest)) : J k n (kW aa ad t σ rs) pc L (.int x0 :: .ref (ad 2) :: rest) := j_callVi (na := 1) (As := [.int x0]) (q0 := 2) (ci := 5) g hC q_i_X3_climbDepth q_s_X3_climbDepth rfl rfl rfl q_c_X3_climbDepth q_l_X8_141 q_n_X3 (by decide +kernel) rfl hR hkn hcat (((pb1 ([kc0 ad σ.2.2.2.2.2.2.2]) (nC (fun p => ad (p + 1)) t σ.1) (nC (fun p => ad (p + 15)) t σ.2.1 ++ (nC (fun p => ad (p + 29)) t σ.2.2.1 ++ (sC aa (fun p => ad (p + 43)) t (σ.2.2.2.1, σ.2.2.2.2.1) ++ (xC (fun p => ad (p + 46)) t σ.2.2.2.2.2.1 ++ (rC (fun p => ad (p + 48)) t σ.2.2.2.2.2.2.1 ++ rs))))))).trans (pm_n1 (fun p => ad (p + 1)) t σ.1 ([kc0 ad σ.2.2.2.2.2.2.2] ++ (nC (fun p => ad (p + 15)) t σ.2.1 ++ (nC (fun p => ad (p + 29)) t σ.2.2.1 ++ (sC aa (fun p => ad (p + 43)) t (σ.2.2.2.1, σ.2.2.2.2.1) ++ (xC (fun p => ad (p + 46)) t σ.2.2.2.2.2.1 ++ (rC (fun p => ad (p + 48)) t σ.2.2.2.2.2.2.1 ++ rs)))))))) ((((pb1 ([kc0 ad σ.2.2.2.2.2.2.2]) (nC (fun p => ad (p + 1)) t σ.1) (nC (fun p => ad (p + 15)) t σ.2.1 ++ (nC (fun p => ad (p + 29)) t σ.2.2.1 ++ (sC aa (fun p => ad (p + 43)) t (σ.2.2.2.1, σ.2.2.2.2.1) ++ (xC (fun p => ad (p + 46)) t σ.2.2.2.2.2.1 ++ (rC (fun p => ad (p + 48)) t σ.2.2.2.2.2.2.1 ++ rs))))))).trans (pm_n1 (fun p => ad (p + 1)) t σ.1 ([kc0 ad σ.2.2.2.2.2.2.2] ++ (nC (fun p => ad (p + 15)) t σ.2.1 ++ (nC (fun p => ad (p + 29)) t σ.2.2.1 ++ (sC aa (fun p => ad (p + 43)) t (σ.2.2.2.1, σ.2.2.2.2.1) ++ (xC (fun p => ad (p + 46)) t σ.2.2.2.2.2.1 ++ (rC (fun p => ad (p + 48)) t σ.2.2.2.2.2.2.1 ++ rs))))))))).symm hd kk rfl
set_option maxRecDepth 100000 in
set_option maxHeartbeats 4000000 in
theorem cX8_depth_ {D : va_G} {t : Nat → ClassId} {aa : gx_AA} {l : Launch} {ad : Nat → Nat} {rs : va_W} {σ : CS} {p1 : Int32} {q : (Int32 × CS)} (hf : fX8_depth σ p1 = some q) : gx_C D t (gx_E0 aa) l yX8_depth cX8_depth 2 (some .int) 2 42 [.ref (ad 0), .int p1] (kW aa ad t σ rs) (kW aa ad t q.2 rs) (some (.int q.1)) := by
  refine gx_intro_i (by decide) (Nat.le_of_ble_eq_true rfl) (fun J g hE0 => ?_)
  have hE : ∀ (v : Int32) (σ : CS) (pc : Nat) (L : List (Nat × Value)), some (v, σ) = some q → decode cX8_depth pc = .ok (.ireturn, 1) → narrow .int (.int v) = .int v → J 0 0 (kW aa ad t σ rs) pc L [.int v] := fun v σ pc L h h1 h2 => by cases h; exact hE0 pc L h1 h2
  unfold fX8_depth at hf
  show J 0 0 (kW aa ad t σ rs) 0 [(0, .ref (ad 0)), (1, .int p1)] []
  refine j_aload_n (pc := 0) g 0 dX8_depth_0 rfl ?_
  refine j_iload_n (pc := 1) g 1 dX8_depth_1 rfl ?_
  obtain ⟨r2, h_2, hf⟩ := gx_bs hf
  refine cK_X8_X8_requireOfficer_0 (σ := σ) (pc := 2) g (cX8_requireOfficer_ h_2) ⟨Nat.le_of_ble_eq_true rfl, Nat.le_of_ble_eq_true rfl⟩ ⟨Nat.zero_le _, Nat.zero_le _⟩ (Nat.le_of_ble_eq_true rfl) dX8_depth_2 ?_
  refine j_aload_n (pc := 5) g 0 dX8_depth_5 rfl ?_
  refine gK_X8_0_0 (σ := r2) (pc := 6) g dX8_depth_6 ?_
  refine gK_X8_1_0 (σ := r2) (pc := 9) g dX8_depth_9 ?_
  refine j_iload_n (pc := 12) g 1 dX8_depth_12 rfl ?_
  obtain ⟨r13, h_13, hf⟩ := gx_bs hf
  refine cK_X8_X3_climbDepth_2 (σ := r2) (pc := 13) g (cX3_climbDepth_ (ad := (fun p => ad (p + 2))) h_13) ⟨Nat.le_of_ble_eq_true rfl, Nat.le_of_ble_eq_true rfl⟩ ⟨Nat.zero_le _, Nat.zero_le _⟩ (Nat.le_of_ble_eq_true rfl) dX8_depth_13 ?_
  exact hE _ _ _ _ hf dX8_depth_16 rfl
theorem cK_X8_X3_searchDepth_2 {D : va_G} {t : Nat → ClassId} {aa : gx_AA} {l : Launch} {R : Room} {cc : ByteArray} {nL : Nat} {J : gx_J} {ad : Nat → Nat} {rs : va_W} {k n pc : Nat} {L : List (Nat × Value)} {rest : List Value} (g : gx_G D t (gx_E0 aa) l R cc RX8 nL J) {σ : CS} {x0 x1 x2 : Int32} {q : Int32} {fr lo : Nat} (hC : gx_C D t (gx_E0 aa) l yX3_searchDepth cX3_searchDepth 6 (some .int) fr lo [.ref (ad 2), .int x0, .int x1, .int x2] (oC (fun p => ad (p + 2)) t σ.1.2.1 ++ (((ad (0 + 1), .inr (4, [.ref (ad (1 + 1)), .ref (ad (7 + 1)), .ref (ad (11 + 1)), .int (os_f σ.1.1 3), .int (os_f σ.1.1 4), .int (os_f σ.1.1 5), .int (os_f σ.1.1 6)])) :: (dC (fun p => ad (p + 8)) t σ.1.2.2.1 ++ bC (fun p => ad (p + 12)) t σ.1.2.2.2)) ++ ([kc0 ad σ.2.2.2.2.2.2.2] ++ (nC (fun p => ad (p + 15)) t σ.2.1 ++ (nC (fun p => ad (p + 29)) t σ.2.2.1 ++ (sC aa (fun p => ad (p + 43)) t (σ.2.2.2.1, σ.2.2.2.2.1) ++ (xC (fun p => ad (p + 46)) t σ.2.2.2.2.2.1 ++ (rC (fun p => ad (p + 48)) t σ.2.2.2.2.2.2.1 ++ rs)))))))) (oC (fun p => ad (p + 2)) t σ.1.2.1 ++ (((ad (0 + 1), .inr (4, [.ref (ad (1 + 1)), .ref (ad (7 + 1)), .ref (ad (11 + 1)), .int (os_f σ.1.1 3), .int (os_f σ.1.1 4), .int (os_f σ.1.1 5), .int (os_f σ.1.1 6)])) :: (dC (fun p => ad (p + 8)) t σ.1.2.2.1 ++ bC (fun p => ad (p + 12)) t σ.1.2.2.2)) ++ ([kc0 ad σ.2.2.2.2.2.2.2] ++ (nC (fun p => ad (p + 15)) t σ.2.1 ++ (nC (fun p => ad (p + 29)) t σ.2.2.1 ++ (sC aa (fun p => ad (p + 43)) t (σ.2.2.2.1, σ.2.2.2.2.1) ++ (xC (fun p => ad (p + 46)) t σ.2.2.2.2.2.1 ++ (rC (fun p => ad (p + 48)) t σ.2.2.2.2.2.2.1 ++ rs)))))))) (some (.int q))) (hR : fr + 1 ≤ R.frames ∧ 8 + (6 + 11) + lo ≤ R.locals) (hkn : k ≤ R.cells ∧ n ≤ R.slots) (hcat : (rest.map fun v => v.category).sum ≤ 8) (hd : decode cc pc = .ok (.invokestatic 144, 3)) (kk : J k n (kW aa ad t σ rs) (pc + 3) L (.int q :: rest)) : J k n (kW aa ad t σ rs) pc L (.int x2 :: .int x1 :: .int x0 :: .ref (ad 2) :: rest) := j_callSni (na := 4) (As := [.ref (ad 2), .int x0, .int x1, .int x2]) g hC q_e_X8_144 q_t_X3_searchDepth q_c_X3_searchDepth q_n_X3 (by decide +kernel) rfl hR hkn hcat (((pb1 ([kc0 ad σ.2.2.2.2.2.2.2]) (nC (fun p => ad (p + 1)) t σ.1) (nC (fun p => ad (p + 15)) t σ.2.1 ++ (nC (fun p => ad (p + 29)) t σ.2.2.1 ++ (sC aa (fun p => ad (p + 43)) t (σ.2.2.2.1, σ.2.2.2.2.1) ++ (xC (fun p => ad (p + 46)) t σ.2.2.2.2.2.1 ++ (rC (fun p => ad (p + 48)) t σ.2.2.2.2.2.2.1 ++ rs))))))).trans (pm_n1 (fun p => ad (p + 1)) t σ.1 ([kc0 ad σ.2.2.2.2.2.2.2] ++ (nC (fun p => ad (p + 15)) t σ.2.1 ++ (nC (fun p => ad (p + 29)) t σ.2.2.1 ++ (sC aa (fun p => ad (p + 43)) t (σ.2.2.2.1, σ.2.2.2.2.1) ++ (xC (fun p => ad (p + 46)) t σ.2.2.2.2.2.1 ++ (rC (fun p => ad (p + 48)) t σ.2.2.2.2.2.2.1 ++ rs)))))))) ((((pb1 ([kc0 ad σ.2.2.2.2.2.2.2]) (nC (fun p => ad (p + 1)) t σ.1) (nC (fun p => ad (p + 15)) t σ.2.1 ++ (nC (fun p => ad (p + 29)) t σ.2.2.1 ++ (sC aa (fun p => ad (p + 43)) t (σ.2.2.2.1, σ.2.2.2.2.1) ++ (xC (fun p => ad (p + 46)) t σ.2.2.2.2.2.1 ++ (rC (fun p => ad (p + 48)) t σ.2.2.2.2.2.2.1 ++ rs))))))).trans (pm_n1 (fun p => ad (p + 1)) t σ.1 ([kc0 ad σ.2.2.2.2.2.2.2] ++ (nC (fun p => ad (p + 15)) t σ.2.1 ++ (nC (fun p => ad (p + 29)) t σ.2.2.1 ++ (sC aa (fun p => ad (p + 43)) t (σ.2.2.2.1, σ.2.2.2.2.1) ++ (xC (fun p => ad (p + 46)) t σ.2.2.2.2.2.1 ++ (rC (fun p => ad (p + 48)) t σ.2.2.2.2.2.2.1 ++ rs))))))))).symm hd kk rfl
set_option maxRecDepth 100000 in
set_option maxHeartbeats 4000000 in
theorem cX8_depthFromTop_ {D : va_G} {t : Nat → ClassId} {aa : gx_AA} {l : Launch} {ad : Nat → Nat} {rs : va_W} {σ : CS} {p1 : Int32} {q : (Int32 × CS)} (hf : fX8_depthFromTop σ p1 = some q) : gx_C D t (gx_E0 aa) l yX8_depthFromTop cX8_depthFromTop 2 (some .int) 17 425 [.ref (ad 0), .int p1] (kW aa ad t σ rs) (kW aa ad t q.2 rs) (some (.int q.1)) := by
  refine gx_intro_i (by decide) (Nat.le_of_ble_eq_true rfl) (fun J g hE0 => ?_)
  have hE : ∀ (v : Int32) (σ : CS) (pc : Nat) (L : List (Nat × Value)), some (v, σ) = some q → decode cX8_depthFromTop pc = .ok (.ireturn, 1) → narrow .int (.int v) = .int v → J 0 0 (kW aa ad t σ rs) pc L [.int v] := fun v σ pc L h h1 h2 => by cases h; exact hE0 pc L h1 h2
  unfold fX8_depthFromTop at hf
  show J 0 0 (kW aa ad t σ rs) 0 [(0, .ref (ad 0)), (1, .int p1)] []
  refine j_aload_n (pc := 0) g 0 dX8_depthFromTop_0 rfl ?_
  refine j_iload_n (pc := 1) g 1 dX8_depthFromTop_1 rfl ?_
  obtain ⟨r2, h_2, hf⟩ := gx_bs hf
  refine cK_X8_X8_requireOfficer_0 (σ := σ) (pc := 2) g (cX8_requireOfficer_ h_2) ⟨Nat.le_of_ble_eq_true rfl, Nat.le_of_ble_eq_true rfl⟩ ⟨Nat.zero_le _, Nat.zero_le _⟩ (Nat.le_of_ble_eq_true rfl) dX8_depthFromTop_2 ?_
  refine j_aload_n (pc := 5) g 0 dX8_depthFromTop_5 rfl ?_
  refine gK_X8_0_0 (σ := r2) (pc := 6) g dX8_depthFromTop_6 ?_
  refine gK_X8_1_0 (σ := r2) (pc := 9) g dX8_depthFromTop_9 ?_
  refine j_iconst (v := 0) (pc := 12) g dX8_depthFromTop_12 (by decide) ?_
  refine j_iload_n (pc := 13) g 1 dX8_depthFromTop_13 rfl ?_
  refine j_iconst (v := 0) (pc := 14) g dX8_depthFromTop_14 (by decide) ?_
  obtain ⟨r15, h_15, hf⟩ := gx_bs hf
  refine cK_X8_X3_searchDepth_2 (σ := r2) (pc := 15) g (cX3_searchDepth_ (ad := (fun p => ad (p + 2))) 16 h_15) ⟨Nat.le_of_ble_eq_true rfl, Nat.le_of_ble_eq_true rfl⟩ ⟨Nat.zero_le _, Nat.zero_le _⟩ (Nat.le_of_ble_eq_true rfl) dX8_depthFromTop_15 ?_
  exact hE _ _ _ _ hf dX8_depthFromTop_18 rfl
theorem cK_X8_X3_sizeGoingDown_2 {D : va_G} {t : Nat → ClassId} {aa : gx_AA} {l : Launch} {R : Room} {cc : ByteArray} {nL : Nat} {J : gx_J} {ad : Nat → Nat} {rs : va_W} {k n pc : Nat} {L : List (Nat × Value)} {rest : List Value} (g : gx_G D t (gx_E0 aa) l R cc RX8 nL J) {σ : CS} {x0 x1 : Int32} {q : Int32} {fr lo : Nat} (hC : gx_C D t (gx_E0 aa) l yX3_sizeGoingDown cX3_sizeGoingDown 5 (some .int) fr lo [.ref (ad 2), .int x0, .int x1] (oC (fun p => ad (p + 2)) t σ.1.2.1 ++ (((ad (0 + 1), .inr (4, [.ref (ad (1 + 1)), .ref (ad (7 + 1)), .ref (ad (11 + 1)), .int (os_f σ.1.1 3), .int (os_f σ.1.1 4), .int (os_f σ.1.1 5), .int (os_f σ.1.1 6)])) :: (dC (fun p => ad (p + 8)) t σ.1.2.2.1 ++ bC (fun p => ad (p + 12)) t σ.1.2.2.2)) ++ ([kc0 ad σ.2.2.2.2.2.2.2] ++ (nC (fun p => ad (p + 15)) t σ.2.1 ++ (nC (fun p => ad (p + 29)) t σ.2.2.1 ++ (sC aa (fun p => ad (p + 43)) t (σ.2.2.2.1, σ.2.2.2.2.1) ++ (xC (fun p => ad (p + 46)) t σ.2.2.2.2.2.1 ++ (rC (fun p => ad (p + 48)) t σ.2.2.2.2.2.2.1 ++ rs)))))))) (oC (fun p => ad (p + 2)) t σ.1.2.1 ++ (((ad (0 + 1), .inr (4, [.ref (ad (1 + 1)), .ref (ad (7 + 1)), .ref (ad (11 + 1)), .int (os_f σ.1.1 3), .int (os_f σ.1.1 4), .int (os_f σ.1.1 5), .int (os_f σ.1.1 6)])) :: (dC (fun p => ad (p + 8)) t σ.1.2.2.1 ++ bC (fun p => ad (p + 12)) t σ.1.2.2.2)) ++ ([kc0 ad σ.2.2.2.2.2.2.2] ++ (nC (fun p => ad (p + 15)) t σ.2.1 ++ (nC (fun p => ad (p + 29)) t σ.2.2.1 ++ (sC aa (fun p => ad (p + 43)) t (σ.2.2.2.1, σ.2.2.2.2.1) ++ (xC (fun p => ad (p + 46)) t σ.2.2.2.2.2.1 ++ (rC (fun p => ad (p + 48)) t σ.2.2.2.2.2.2.1 ++ rs)))))))) (some (.int q))) (hR : fr + 1 ≤ R.frames ∧ 8 + (5 + 11) + lo ≤ R.locals) (hkn : k ≤ R.cells ∧ n ≤ R.slots) (hcat : (rest.map fun v => v.category).sum ≤ 8) (hd : decode cc pc = .ok (.invokestatic 148, 3)) (kk : J k n (kW aa ad t σ rs) (pc + 3) L (.int q :: rest)) : J k n (kW aa ad t σ rs) pc L (.int x1 :: .int x0 :: .ref (ad 2) :: rest) := j_callSni (na := 3) (As := [.ref (ad 2), .int x0, .int x1]) g hC q_e_X8_148 q_t_X3_sizeGoingDown q_c_X3_sizeGoingDown q_n_X3 (by decide +kernel) rfl hR hkn hcat (((pb1 ([kc0 ad σ.2.2.2.2.2.2.2]) (nC (fun p => ad (p + 1)) t σ.1) (nC (fun p => ad (p + 15)) t σ.2.1 ++ (nC (fun p => ad (p + 29)) t σ.2.2.1 ++ (sC aa (fun p => ad (p + 43)) t (σ.2.2.2.1, σ.2.2.2.2.1) ++ (xC (fun p => ad (p + 46)) t σ.2.2.2.2.2.1 ++ (rC (fun p => ad (p + 48)) t σ.2.2.2.2.2.2.1 ++ rs))))))).trans (pm_n1 (fun p => ad (p + 1)) t σ.1 ([kc0 ad σ.2.2.2.2.2.2.2] ++ (nC (fun p => ad (p + 15)) t σ.2.1 ++ (nC (fun p => ad (p + 29)) t σ.2.2.1 ++ (sC aa (fun p => ad (p + 43)) t (σ.2.2.2.1, σ.2.2.2.2.1) ++ (xC (fun p => ad (p + 46)) t σ.2.2.2.2.2.1 ++ (rC (fun p => ad (p + 48)) t σ.2.2.2.2.2.2.1 ++ rs)))))))) ((((pb1 ([kc0 ad σ.2.2.2.2.2.2.2]) (nC (fun p => ad (p + 1)) t σ.1) (nC (fun p => ad (p + 15)) t σ.2.1 ++ (nC (fun p => ad (p + 29)) t σ.2.2.1 ++ (sC aa (fun p => ad (p + 43)) t (σ.2.2.2.1, σ.2.2.2.2.1) ++ (xC (fun p => ad (p + 46)) t σ.2.2.2.2.2.1 ++ (rC (fun p => ad (p + 48)) t σ.2.2.2.2.2.2.1 ++ rs))))))).trans (pm_n1 (fun p => ad (p + 1)) t σ.1 ([kc0 ad σ.2.2.2.2.2.2.2] ++ (nC (fun p => ad (p + 15)) t σ.2.1 ++ (nC (fun p => ad (p + 29)) t σ.2.2.1 ++ (sC aa (fun p => ad (p + 43)) t (σ.2.2.2.1, σ.2.2.2.2.1) ++ (xC (fun p => ad (p + 46)) t σ.2.2.2.2.2.1 ++ (rC (fun p => ad (p + 48)) t σ.2.2.2.2.2.2.1 ++ rs))))))))).symm hd kk rfl
set_option maxRecDepth 100000 in
set_option maxHeartbeats 4000000 in
theorem cX8_commandSize_ {D : va_G} {t : Nat → ClassId} {aa : gx_AA} {l : Launch} {ad : Nat → Nat} {rs : va_W} {σ : CS} {p1 : Int32} {q : (Int32 × CS)} (hf : fX8_commandSize σ p1 = some q) : gx_C D t (gx_E0 aa) l yX8_commandSize cX8_commandSize 2 (some .int) 17 408 [.ref (ad 0), .int p1] (kW aa ad t σ rs) (kW aa ad t q.2 rs) (some (.int q.1)) := by
  refine gx_intro_i (by decide) (Nat.le_of_ble_eq_true rfl) (fun J g hE0 => ?_)
  have hE : ∀ (v : Int32) (σ : CS) (pc : Nat) (L : List (Nat × Value)), some (v, σ) = some q → decode cX8_commandSize pc = .ok (.ireturn, 1) → narrow .int (.int v) = .int v → J 0 0 (kW aa ad t σ rs) pc L [.int v] := fun v σ pc L h h1 h2 => by cases h; exact hE0 pc L h1 h2
  unfold fX8_commandSize at hf
  show J 0 0 (kW aa ad t σ rs) 0 [(0, .ref (ad 0)), (1, .int p1)] []
  refine j_aload_n (pc := 0) g 0 dX8_commandSize_0 rfl ?_
  refine j_iload_n (pc := 1) g 1 dX8_commandSize_1 rfl ?_
  obtain ⟨r2, h_2, hf⟩ := gx_bs hf
  refine cK_X8_X8_requireOfficer_0 (σ := σ) (pc := 2) g (cX8_requireOfficer_ h_2) ⟨Nat.le_of_ble_eq_true rfl, Nat.le_of_ble_eq_true rfl⟩ ⟨Nat.zero_le _, Nat.zero_le _⟩ (Nat.le_of_ble_eq_true rfl) dX8_commandSize_2 ?_
  refine j_aload_n (pc := 5) g 0 dX8_commandSize_5 rfl ?_
  refine gK_X8_0_0 (σ := r2) (pc := 6) g dX8_commandSize_6 ?_
  refine gK_X8_1_0 (σ := r2) (pc := 9) g dX8_commandSize_9 ?_
  refine j_iload_n (pc := 12) g 1 dX8_commandSize_12 rfl ?_
  refine j_iconst (v := 0) (pc := 13) g dX8_commandSize_13 (by decide) ?_
  obtain ⟨r14, h_14, hf⟩ := gx_bs hf
  refine cK_X8_X3_sizeGoingDown_2 (σ := r2) (pc := 14) g (cX3_sizeGoingDown_ (ad := (fun p => ad (p + 2))) 16 h_14) ⟨Nat.le_of_ble_eq_true rfl, Nat.le_of_ble_eq_true rfl⟩ ⟨Nat.zero_le _, Nat.zero_le _⟩ (Nat.le_of_ble_eq_true rfl) dX8_commandSize_14 ?_
  exact hE _ _ _ _ hf dX8_commandSize_17 rfl
theorem cK_X8_X3_countCommand_2 {D : va_G} {t : Nat → ClassId} {aa : gx_AA} {l : Launch} {R : Room} {cc : ByteArray} {nL : Nat} {J : gx_J} {ad : Nat → Nat} {rs : va_W} {k n pc : Nat} {L : List (Nat × Value)} {rest : List Value} (g : gx_G D t (gx_E0 aa) l R cc RX8 nL J) {σ : CS} {x0 : Int32} {q : Int32} {fr lo : Nat} (hC : gx_C D t (gx_E0 aa) l yX3_countCommand cX3_countCommand 4 (some .int) fr lo [.ref (ad 2), .int x0] (oC (fun p => ad (p + 2)) t σ.1.2.1 ++ (((ad (0 + 1), .inr (4, [.ref (ad (1 + 1)), .ref (ad (7 + 1)), .ref (ad (11 + 1)), .int (os_f σ.1.1 3), .int (os_f σ.1.1 4), .int (os_f σ.1.1 5), .int (os_f σ.1.1 6)])) :: (dC (fun p => ad (p + 8)) t σ.1.2.2.1 ++ bC (fun p => ad (p + 12)) t σ.1.2.2.2)) ++ ([kc0 ad σ.2.2.2.2.2.2.2] ++ (nC (fun p => ad (p + 15)) t σ.2.1 ++ (nC (fun p => ad (p + 29)) t σ.2.2.1 ++ (sC aa (fun p => ad (p + 43)) t (σ.2.2.2.1, σ.2.2.2.2.1) ++ (xC (fun p => ad (p + 46)) t σ.2.2.2.2.2.1 ++ (rC (fun p => ad (p + 48)) t σ.2.2.2.2.2.2.1 ++ rs)))))))) (oC (fun p => ad (p + 2)) t σ.1.2.1 ++ (((ad (0 + 1), .inr (4, [.ref (ad (1 + 1)), .ref (ad (7 + 1)), .ref (ad (11 + 1)), .int (os_f σ.1.1 3), .int (os_f σ.1.1 4), .int (os_f σ.1.1 5), .int (os_f σ.1.1 6)])) :: (dC (fun p => ad (p + 8)) t σ.1.2.2.1 ++ bC (fun p => ad (p + 12)) t σ.1.2.2.2)) ++ ([kc0 ad σ.2.2.2.2.2.2.2] ++ (nC (fun p => ad (p + 15)) t σ.2.1 ++ (nC (fun p => ad (p + 29)) t σ.2.2.1 ++ (sC aa (fun p => ad (p + 43)) t (σ.2.2.2.1, σ.2.2.2.2.1) ++ (xC (fun p => ad (p + 46)) t σ.2.2.2.2.2.1 ++ (rC (fun p => ad (p + 48)) t σ.2.2.2.2.2.2.1 ++ rs)))))))) (some (.int q))) (hR : fr + 1 ≤ R.frames ∧ 8 + (4 + 11) + lo ≤ R.locals) (hkn : k ≤ R.cells ∧ n ≤ R.slots) (hcat : (rest.map fun v => v.category).sum ≤ 8) (hd : decode cc pc = .ok (.invokevirtual 152, 3)) (kk : J k n (kW aa ad t σ rs) (pc + 3) L (.int q :: rest)) : J k n (kW aa ad t σ rs) pc L (.int x0 :: .ref (ad 2) :: rest) := j_callVi (na := 1) (As := [.int x0]) (q0 := 2) (ci := 5) g hC q_i_X3_countCommand q_s_X3_countCommand rfl rfl rfl q_c_X3_countCommand q_l_X8_152 q_n_X3 (by decide +kernel) rfl hR hkn hcat (((pb1 ([kc0 ad σ.2.2.2.2.2.2.2]) (nC (fun p => ad (p + 1)) t σ.1) (nC (fun p => ad (p + 15)) t σ.2.1 ++ (nC (fun p => ad (p + 29)) t σ.2.2.1 ++ (sC aa (fun p => ad (p + 43)) t (σ.2.2.2.1, σ.2.2.2.2.1) ++ (xC (fun p => ad (p + 46)) t σ.2.2.2.2.2.1 ++ (rC (fun p => ad (p + 48)) t σ.2.2.2.2.2.2.1 ++ rs))))))).trans (pm_n1 (fun p => ad (p + 1)) t σ.1 ([kc0 ad σ.2.2.2.2.2.2.2] ++ (nC (fun p => ad (p + 15)) t σ.2.1 ++ (nC (fun p => ad (p + 29)) t σ.2.2.1 ++ (sC aa (fun p => ad (p + 43)) t (σ.2.2.2.1, σ.2.2.2.2.1) ++ (xC (fun p => ad (p + 46)) t σ.2.2.2.2.2.1 ++ (rC (fun p => ad (p + 48)) t σ.2.2.2.2.2.2.1 ++ rs)))))))) ((((pb1 ([kc0 ad σ.2.2.2.2.2.2.2]) (nC (fun p => ad (p + 1)) t σ.1) (nC (fun p => ad (p + 15)) t σ.2.1 ++ (nC (fun p => ad (p + 29)) t σ.2.2.1 ++ (sC aa (fun p => ad (p + 43)) t (σ.2.2.2.1, σ.2.2.2.2.1) ++ (xC (fun p => ad (p + 46)) t σ.2.2.2.2.2.1 ++ (rC (fun p => ad (p + 48)) t σ.2.2.2.2.2.2.1 ++ rs))))))).trans (pm_n1 (fun p => ad (p + 1)) t σ.1 ([kc0 ad σ.2.2.2.2.2.2.2] ++ (nC (fun p => ad (p + 15)) t σ.2.1 ++ (nC (fun p => ad (p + 29)) t σ.2.2.1 ++ (sC aa (fun p => ad (p + 43)) t (σ.2.2.2.1, σ.2.2.2.2.1) ++ (xC (fun p => ad (p + 46)) t σ.2.2.2.2.2.1 ++ (rC (fun p => ad (p + 48)) t σ.2.2.2.2.2.2.1 ++ rs))))))))).symm hd kk rfl
set_option maxRecDepth 100000 in
set_option maxHeartbeats 4000000 in
theorem cX8_commandSizeByCounting_ {D : va_G} {t : Nat → ClassId} {aa : gx_AA} {l : Launch} {ad : Nat → Nat} {rs : va_W} {σ : CS} {p1 : Int32} {q : (Int32 × CS)} (hf : fX8_commandSizeByCounting σ p1 = some q) : gx_C D t (gx_E0 aa) l yX8_commandSizeByCounting cX8_commandSizeByCounting 2 (some .int) 3 69 [.ref (ad 0), .int p1] (kW aa ad t σ rs) (kW aa ad t q.2 rs) (some (.int q.1)) := by
  refine gx_intro_i (by decide) (Nat.le_of_ble_eq_true rfl) (fun J g hE0 => ?_)
  have hE : ∀ (v : Int32) (σ : CS) (pc : Nat) (L : List (Nat × Value)), some (v, σ) = some q → decode cX8_commandSizeByCounting pc = .ok (.ireturn, 1) → narrow .int (.int v) = .int v → J 0 0 (kW aa ad t σ rs) pc L [.int v] := fun v σ pc L h h1 h2 => by cases h; exact hE0 pc L h1 h2
  unfold fX8_commandSizeByCounting at hf
  show J 0 0 (kW aa ad t σ rs) 0 [(0, .ref (ad 0)), (1, .int p1)] []
  refine j_aload_n (pc := 0) g 0 dX8_commandSizeByCounting_0 rfl ?_
  refine j_iload_n (pc := 1) g 1 dX8_commandSizeByCounting_1 rfl ?_
  obtain ⟨r2, h_2, hf⟩ := gx_bs hf
  refine cK_X8_X8_requireOfficer_0 (σ := σ) (pc := 2) g (cX8_requireOfficer_ h_2) ⟨Nat.le_of_ble_eq_true rfl, Nat.le_of_ble_eq_true rfl⟩ ⟨Nat.zero_le _, Nat.zero_le _⟩ (Nat.le_of_ble_eq_true rfl) dX8_commandSizeByCounting_2 ?_
  refine j_aload_n (pc := 5) g 0 dX8_commandSizeByCounting_5 rfl ?_
  refine gK_X8_0_0 (σ := r2) (pc := 6) g dX8_commandSizeByCounting_6 ?_
  refine gK_X8_1_0 (σ := r2) (pc := 9) g dX8_commandSizeByCounting_9 ?_
  refine j_iload_n (pc := 12) g 1 dX8_commandSizeByCounting_12 rfl ?_
  obtain ⟨r13, h_13, hf⟩ := gx_bs hf
  refine cK_X8_X3_countCommand_2 (σ := r2) (pc := 13) g (cX3_countCommand_ (ad := (fun p => ad (p + 2))) h_13) ⟨Nat.le_of_ble_eq_true rfl, Nat.le_of_ble_eq_true rfl⟩ ⟨Nat.zero_le _, Nat.zero_le _⟩ (Nat.le_of_ble_eq_true rfl) dX8_commandSizeByCounting_13 ?_
  exact hE _ _ _ _ hf dX8_commandSizeByCounting_16 rfl

set_option maxRecDepth 100000 in
set_option maxHeartbeats 4000000 in
theorem cX8_isAbove_ {D : va_G} {t : Nat → ClassId} {aa : gx_AA} {l : Launch} {ad : Nat → Nat} {rs : va_W} {σ : CS} {p1 : Int32} {p2 : Int32} {q : (Int32 × CS)} (hf : fX8_isAbove σ p1 p2 = some q) : gx_C D t (gx_E0 aa) l yX8_isAbove cX8_isAbove 3 (some .boolean) 2 46 [.ref (ad 0), .int p1, .int p2] (kW aa ad t σ rs) (kW aa ad t q.2 rs) (some (.int q.1)) := by
  refine gx_intro_i (by decide) (Nat.le_of_ble_eq_true rfl) (fun J g hE0 => ?_)
  have hE : ∀ (v : Int32) (σ : CS) (pc : Nat) (L : List (Nat × Value)), some (v, σ) = some q → decode cX8_isAbove pc = .ok (.ireturn, 1) → narrow .boolean (.int v) = .int v → J 0 0 (kW aa ad t σ rs) pc L [.int v] := fun v σ pc L h h1 h2 => by cases h; exact hE0 pc L h1 h2
  unfold fX8_isAbove at hf
  show J 0 0 (kW aa ad t σ rs) 0 [(0, .ref (ad 0)), (1, .int p1), (2, .int p2)] []
  refine j_aload_n (pc := 0) g 0 dX8_isAbove_0 rfl ?_
  refine j_iload_n (pc := 1) g 1 dX8_isAbove_1 rfl ?_
  obtain ⟨r2, h_2, hf⟩ := gx_bs hf
  refine cK_X8_X8_requireOfficer_0 (σ := σ) (pc := 2) g (cX8_requireOfficer_ h_2) ⟨Nat.le_of_ble_eq_true rfl, Nat.le_of_ble_eq_true rfl⟩ ⟨Nat.zero_le _, Nat.zero_le _⟩ (Nat.le_of_ble_eq_true rfl) dX8_isAbove_2 ?_
  refine j_aload_n (pc := 5) g 0 dX8_isAbove_5 rfl ?_
  refine j_iload_n (pc := 6) g 2 dX8_isAbove_6 rfl ?_
  obtain ⟨r7, h_7, hf⟩ := gx_bs hf
  refine cK_X8_X8_requireOfficer_0 (σ := r2) (pc := 7) g (cX8_requireOfficer_ h_7) ⟨Nat.le_of_ble_eq_true rfl, Nat.le_of_ble_eq_true rfl⟩ ⟨Nat.zero_le _, Nat.zero_le _⟩ (Nat.le_of_ble_eq_true rfl) dX8_isAbove_7 ?_
  refine j_aload_n (pc := 10) g 0 dX8_isAbove_10 rfl ?_
  refine gK_X8_0_0 (σ := r7) (pc := 11) g dX8_isAbove_11 ?_
  refine gK_X8_1_0 (σ := r7) (pc := 14) g dX8_isAbove_14 ?_
  refine j_iload_n (pc := 17) g 1 dX8_isAbove_17 rfl ?_
  refine j_iload_n (pc := 18) g 2 dX8_isAbove_18 rfl ?_
  obtain ⟨r19, h_19, hf⟩ := gx_bs hf
  refine cK_X8_X3_isOver_2 (σ := r7) (pc := 19) g (cX3_isOver_ (ad := (fun p => ad (p + 2))) h_19) ⟨Nat.le_of_ble_eq_true rfl, Nat.le_of_ble_eq_true rfl⟩ ⟨Nat.zero_le _, Nat.zero_le _⟩ (Nat.le_of_ble_eq_true rfl) dX8_isAbove_19 ?_
  obtain ⟨h_r, hf⟩ := gx_ck hf
  exact hE _ _ _ _ hf dX8_isAbove_22 (gx_narZ h_r)
theorem cK_X8_X3_lowestOverBoth_2 {D : va_G} {t : Nat → ClassId} {aa : gx_AA} {l : Launch} {R : Room} {cc : ByteArray} {nL : Nat} {J : gx_J} {ad : Nat → Nat} {rs : va_W} {k n pc : Nat} {L : List (Nat × Value)} {rest : List Value} (g : gx_G D t (gx_E0 aa) l R cc RX8 nL J) {σ : CS} {x0 x1 : Int32} {q : Int32} {fr lo : Nat} (hC : gx_C D t (gx_E0 aa) l yX3_lowestOverBoth cX3_lowestOverBoth 5 (some .int) fr lo [.ref (ad 2), .int x0, .int x1] (oC (fun p => ad (p + 2)) t σ.1.2.1 ++ (((ad (0 + 1), .inr (4, [.ref (ad (1 + 1)), .ref (ad (7 + 1)), .ref (ad (11 + 1)), .int (os_f σ.1.1 3), .int (os_f σ.1.1 4), .int (os_f σ.1.1 5), .int (os_f σ.1.1 6)])) :: (dC (fun p => ad (p + 8)) t σ.1.2.2.1 ++ bC (fun p => ad (p + 12)) t σ.1.2.2.2)) ++ ([kc0 ad σ.2.2.2.2.2.2.2] ++ (nC (fun p => ad (p + 15)) t σ.2.1 ++ (nC (fun p => ad (p + 29)) t σ.2.2.1 ++ (sC aa (fun p => ad (p + 43)) t (σ.2.2.2.1, σ.2.2.2.2.1) ++ (xC (fun p => ad (p + 46)) t σ.2.2.2.2.2.1 ++ (rC (fun p => ad (p + 48)) t σ.2.2.2.2.2.2.1 ++ rs)))))))) (oC (fun p => ad (p + 2)) t σ.1.2.1 ++ (((ad (0 + 1), .inr (4, [.ref (ad (1 + 1)), .ref (ad (7 + 1)), .ref (ad (11 + 1)), .int (os_f σ.1.1 3), .int (os_f σ.1.1 4), .int (os_f σ.1.1 5), .int (os_f σ.1.1 6)])) :: (dC (fun p => ad (p + 8)) t σ.1.2.2.1 ++ bC (fun p => ad (p + 12)) t σ.1.2.2.2)) ++ ([kc0 ad σ.2.2.2.2.2.2.2] ++ (nC (fun p => ad (p + 15)) t σ.2.1 ++ (nC (fun p => ad (p + 29)) t σ.2.2.1 ++ (sC aa (fun p => ad (p + 43)) t (σ.2.2.2.1, σ.2.2.2.2.1) ++ (xC (fun p => ad (p + 46)) t σ.2.2.2.2.2.1 ++ (rC (fun p => ad (p + 48)) t σ.2.2.2.2.2.2.1 ++ rs)))))))) (some (.int q))) (hR : fr + 1 ≤ R.frames ∧ 8 + (5 + 11) + lo ≤ R.locals) (hkn : k ≤ R.cells ∧ n ≤ R.slots) (hcat : (rest.map fun v => v.category).sum ≤ 8) (hd : decode cc pc = .ok (.invokevirtual 159, 3)) (kk : J k n (kW aa ad t σ rs) (pc + 3) L (.int q :: rest)) : J k n (kW aa ad t σ rs) pc L (.int x1 :: .int x0 :: .ref (ad 2) :: rest) := j_callVi (na := 2) (As := [.int x0, .int x1]) (q0 := 2) (ci := 5) g hC q_i_X3_lowestOverBoth q_s_X3_lowestOverBoth rfl rfl rfl q_c_X3_lowestOverBoth q_l_X8_159 q_n_X3 (by decide +kernel) rfl hR hkn hcat (((pb1 ([kc0 ad σ.2.2.2.2.2.2.2]) (nC (fun p => ad (p + 1)) t σ.1) (nC (fun p => ad (p + 15)) t σ.2.1 ++ (nC (fun p => ad (p + 29)) t σ.2.2.1 ++ (sC aa (fun p => ad (p + 43)) t (σ.2.2.2.1, σ.2.2.2.2.1) ++ (xC (fun p => ad (p + 46)) t σ.2.2.2.2.2.1 ++ (rC (fun p => ad (p + 48)) t σ.2.2.2.2.2.2.1 ++ rs))))))).trans (pm_n1 (fun p => ad (p + 1)) t σ.1 ([kc0 ad σ.2.2.2.2.2.2.2] ++ (nC (fun p => ad (p + 15)) t σ.2.1 ++ (nC (fun p => ad (p + 29)) t σ.2.2.1 ++ (sC aa (fun p => ad (p + 43)) t (σ.2.2.2.1, σ.2.2.2.2.1) ++ (xC (fun p => ad (p + 46)) t σ.2.2.2.2.2.1 ++ (rC (fun p => ad (p + 48)) t σ.2.2.2.2.2.2.1 ++ rs)))))))) ((((pb1 ([kc0 ad σ.2.2.2.2.2.2.2]) (nC (fun p => ad (p + 1)) t σ.1) (nC (fun p => ad (p + 15)) t σ.2.1 ++ (nC (fun p => ad (p + 29)) t σ.2.2.1 ++ (sC aa (fun p => ad (p + 43)) t (σ.2.2.2.1, σ.2.2.2.2.1) ++ (xC (fun p => ad (p + 46)) t σ.2.2.2.2.2.1 ++ (rC (fun p => ad (p + 48)) t σ.2.2.2.2.2.2.1 ++ rs))))))).trans (pm_n1 (fun p => ad (p + 1)) t σ.1 ([kc0 ad σ.2.2.2.2.2.2.2] ++ (nC (fun p => ad (p + 15)) t σ.2.1 ++ (nC (fun p => ad (p + 29)) t σ.2.2.1 ++ (sC aa (fun p => ad (p + 43)) t (σ.2.2.2.1, σ.2.2.2.2.1) ++ (xC (fun p => ad (p + 46)) t σ.2.2.2.2.2.1 ++ (rC (fun p => ad (p + 48)) t σ.2.2.2.2.2.2.1 ++ rs))))))))).symm hd kk rfl
set_option maxRecDepth 100000 in
set_option maxHeartbeats 4000000 in
theorem cX8_commonSuperior_ {D : va_G} {t : Nat → ClassId} {aa : gx_AA} {l : Launch} {ad : Nat → Nat} {rs : va_W} {σ : CS} {p1 : Int32} {p2 : Int32} {q : (Int32 × CS)} (hf : fX8_commonSuperior σ p1 p2 = some q) : gx_C D t (gx_E0 aa) l yX8_commonSuperior cX8_commonSuperior 3 (some .int) 3 70 [.ref (ad 0), .int p1, .int p2] (kW aa ad t σ rs) (kW aa ad t q.2 rs) (some (.int q.1)) := by
  refine gx_intro_i (by decide) (Nat.le_of_ble_eq_true rfl) (fun J g hE0 => ?_)
  have hE : ∀ (v : Int32) (σ : CS) (pc : Nat) (L : List (Nat × Value)), some (v, σ) = some q → decode cX8_commonSuperior pc = .ok (.ireturn, 1) → narrow .int (.int v) = .int v → J 0 0 (kW aa ad t σ rs) pc L [.int v] := fun v σ pc L h h1 h2 => by cases h; exact hE0 pc L h1 h2
  unfold fX8_commonSuperior at hf
  show J 0 0 (kW aa ad t σ rs) 0 [(0, .ref (ad 0)), (1, .int p1), (2, .int p2)] []
  refine j_aload_n (pc := 0) g 0 dX8_commonSuperior_0 rfl ?_
  refine j_iload_n (pc := 1) g 1 dX8_commonSuperior_1 rfl ?_
  obtain ⟨r2, h_2, hf⟩ := gx_bs hf
  refine cK_X8_X8_requireOfficer_0 (σ := σ) (pc := 2) g (cX8_requireOfficer_ h_2) ⟨Nat.le_of_ble_eq_true rfl, Nat.le_of_ble_eq_true rfl⟩ ⟨Nat.zero_le _, Nat.zero_le _⟩ (Nat.le_of_ble_eq_true rfl) dX8_commonSuperior_2 ?_
  refine j_aload_n (pc := 5) g 0 dX8_commonSuperior_5 rfl ?_
  refine j_iload_n (pc := 6) g 2 dX8_commonSuperior_6 rfl ?_
  obtain ⟨r7, h_7, hf⟩ := gx_bs hf
  refine cK_X8_X8_requireOfficer_0 (σ := r2) (pc := 7) g (cX8_requireOfficer_ h_7) ⟨Nat.le_of_ble_eq_true rfl, Nat.le_of_ble_eq_true rfl⟩ ⟨Nat.zero_le _, Nat.zero_le _⟩ (Nat.le_of_ble_eq_true rfl) dX8_commonSuperior_7 ?_
  refine j_aload_n (pc := 10) g 0 dX8_commonSuperior_10 rfl ?_
  refine gK_X8_0_0 (σ := r7) (pc := 11) g dX8_commonSuperior_11 ?_
  refine gK_X8_1_0 (σ := r7) (pc := 14) g dX8_commonSuperior_14 ?_
  refine j_iload_n (pc := 17) g 1 dX8_commonSuperior_17 rfl ?_
  refine j_iload_n (pc := 18) g 2 dX8_commonSuperior_18 rfl ?_
  obtain ⟨r19, h_19, hf⟩ := gx_bs hf
  refine cK_X8_X3_lowestOverBoth_2 (σ := r7) (pc := 19) g (cX3_lowestOverBoth_ (ad := (fun p => ad (p + 2))) h_19) ⟨Nat.le_of_ble_eq_true rfl, Nat.le_of_ble_eq_true rfl⟩ ⟨Nat.zero_le _, Nat.zero_le _⟩ (Nat.le_of_ble_eq_true rfl) dX8_commonSuperior_19 ?_
  exact hE _ _ _ _ hf dX8_commonSuperior_22 rfl
theorem cK_X8_X8_requireWay_0 {D : va_G} {t : Nat → ClassId} {aa : gx_AA} {l : Launch} {R : Room} {cc : ByteArray} {nL : Nat} {J : gx_J} {ad : Nat → Nat} {rs : va_W} {k n pc : Nat} {L : List (Nat × Value)} {rest : List Value} (g : gx_G D t (gx_E0 aa) l R cc RX8 nL J) {σ : CS} {x0 x1 : Int32} {q : CS} {fr lo : Nat} (hC : gx_C D t (gx_E0 aa) l yX8_requireWay cX8_requireWay 3 none fr lo [.ref (ad 0), .int x0, .int x1] (kW aa ad t σ rs) (kW aa ad t q rs) none) (hR : fr + 1 ≤ R.frames ∧ 8 + (3 + 11) + lo ≤ R.locals) (hkn : k ≤ R.cells ∧ n ≤ R.slots) (hcat : (rest.map fun v => v.category).sum ≤ 8) (hd : decode cc pc = .ok (.invokevirtual 165, 3)) (kk : J k n (kW aa ad t q rs) (pc + 3) L (rest)) : J k n (kW aa ad t σ rs) pc L (.int x1 :: .int x0 :: .ref (ad 0) :: rest) := j_callVv (na := 2) (As := [.int x0, .int x1]) (q0 := 0) (ci := 9) g hC q_i_X8_requireWay q_s_X8_requireWay rfl rfl rfl q_c_X8_requireWay q_l_X8_165 q_n_X8 (by decide +kernel) rfl hR hkn hcat (.refl _) (.refl _) hd kk rfl
set_option maxRecDepth 100000 in
set_option maxHeartbeats 4000000 in
theorem cX8_hoursFor_ {D : va_G} {t : Nat → ClassId} {aa : gx_AA} {l : Launch} {ad : Nat → Nat} {rs : va_W} {σ : CS} {p1 : Int32} {p2 : Int32} {q : (Int32 × CS)} (hf : fX8_hoursFor σ p1 p2 = some q) : gx_C D t (gx_E0 aa) l yX8_hoursFor cX8_hoursFor 3 (some .int) 3 68 [.ref (ad 0), .int p1, .int p2] (kW aa ad t σ rs) (kW aa ad t q.2 rs) (some (.int q.1)) := by
  refine gx_intro_i (by decide) (Nat.le_of_ble_eq_true rfl) (fun J g hE0 => ?_)
  have hE : ∀ (v : Int32) (σ : CS) (pc : Nat) (L : List (Nat × Value)), some (v, σ) = some q → decode cX8_hoursFor pc = .ok (.ireturn, 1) → narrow .int (.int v) = .int v → J 0 0 (kW aa ad t σ rs) pc L [.int v] := fun v σ pc L h h1 h2 => by cases h; exact hE0 pc L h1 h2
  unfold fX8_hoursFor at hf
  show J 0 0 (kW aa ad t σ rs) 0 [(0, .ref (ad 0)), (1, .int p1), (2, .int p2)] []
  refine j_aload_n (pc := 0) g 0 dX8_hoursFor_0 rfl ?_
  refine j_iload_n (pc := 1) g 1 dX8_hoursFor_1 rfl ?_
  obtain ⟨r2, h_2, hf⟩ := gx_bs hf
  refine cK_X8_X8_requireOfficer_0 (σ := σ) (pc := 2) g (cX8_requireOfficer_ h_2) ⟨Nat.le_of_ble_eq_true rfl, Nat.le_of_ble_eq_true rfl⟩ ⟨Nat.zero_le _, Nat.zero_le _⟩ (Nat.le_of_ble_eq_true rfl) dX8_hoursFor_2 ?_
  refine j_aload_n (pc := 5) g 0 dX8_hoursFor_5 rfl ?_
  refine j_iload_n (pc := 6) g 2 dX8_hoursFor_6 rfl ?_
  obtain ⟨r7, h_7, hf⟩ := gx_bs hf
  refine cK_X8_X8_requireOfficer_0 (σ := r2) (pc := 7) g (cX8_requireOfficer_ h_7) ⟨Nat.le_of_ble_eq_true rfl, Nat.le_of_ble_eq_true rfl⟩ ⟨Nat.zero_le _, Nat.zero_le _⟩ (Nat.le_of_ble_eq_true rfl) dX8_hoursFor_7 ?_
  refine j_aload_n (pc := 10) g 0 dX8_hoursFor_10 rfl ?_
  refine j_iload_n (pc := 11) g 1 dX8_hoursFor_11 rfl ?_
  refine j_iload_n (pc := 12) g 2 dX8_hoursFor_12 rfl ?_
  obtain ⟨r13, h_13, hf⟩ := gx_bs hf
  refine cK_X8_X8_requireWay_0 (σ := r7) (pc := 13) g (cX8_requireWay_ h_13) ⟨Nat.le_of_ble_eq_true rfl, Nat.le_of_ble_eq_true rfl⟩ ⟨Nat.zero_le _, Nat.zero_le _⟩ (Nat.le_of_ble_eq_true rfl) dX8_hoursFor_13 ?_
  refine j_aload_n (pc := 16) g 0 dX8_hoursFor_16 rfl ?_
  refine gK_X8_0_0 (σ := r13) (pc := 17) g dX8_hoursFor_17 ?_
  refine gK_X8_1_0 (σ := r13) (pc := 20) g dX8_hoursFor_20 ?_
  refine j_iload_n (pc := 23) g 2 dX8_hoursFor_23 rfl ?_
  obtain ⟨r24, h_24, hf⟩ := gx_bs hf
  refine cK_X8_X3_climbDepth_2 (σ := r13) (pc := 24) g (cX3_climbDepth_ (ad := (fun p => ad (p + 2))) h_24) ⟨Nat.le_of_ble_eq_true rfl, Nat.le_of_ble_eq_true rfl⟩ ⟨Nat.zero_le _, Nat.zero_le _⟩ (Nat.le_of_ble_eq_true rfl) dX8_hoursFor_24 ?_
  refine j_aload_n (pc := 27) g 0 dX8_hoursFor_27 rfl ?_
  refine gK_X8_0_0 (σ := r13) (pc := 28) g dX8_hoursFor_28 ?_
  refine gK_X8_1_0 (σ := r13) (pc := 31) g dX8_hoursFor_31 ?_
  refine j_iload_n (pc := 34) g 1 dX8_hoursFor_34 rfl ?_
  obtain ⟨r35, h_35, hf⟩ := gx_bs hf
  refine cK_X8_X3_climbDepth_2 (σ := r13) (pc := 35) g (cX3_climbDepth_ (ad := (fun p => ad (p + 2))) h_35) ⟨Nat.le_of_ble_eq_true rfl, Nat.le_of_ble_eq_true rfl⟩ ⟨Nat.zero_le _, Nat.zero_le _⟩ (Nat.le_of_ble_eq_true rfl) dX8_hoursFor_35 ?_
  refine j_isub (pc := 38) g dX8_hoursFor_38 ?_
  exact hE _ _ _ _ hf dX8_hoursFor_39 rfl
theorem cK_X8_X3_leastLoyalty_2 {D : va_G} {t : Nat → ClassId} {aa : gx_AA} {l : Launch} {R : Room} {cc : ByteArray} {nL : Nat} {J : gx_J} {ad : Nat → Nat} {rs : va_W} {k n pc : Nat} {L : List (Nat × Value)} {rest : List Value} (g : gx_G D t (gx_E0 aa) l R cc RX8 nL J) {σ : CS} {x0 x1 : Int32} {q : Int32} {fr lo : Nat} (hC : gx_C D t (gx_E0 aa) l yX3_leastLoyalty cX3_leastLoyalty 6 (some .int) fr lo [.ref (ad 2), .int x0, .int x1] (oC (fun p => ad (p + 2)) t σ.1.2.1 ++ (((ad (0 + 1), .inr (4, [.ref (ad (1 + 1)), .ref (ad (7 + 1)), .ref (ad (11 + 1)), .int (os_f σ.1.1 3), .int (os_f σ.1.1 4), .int (os_f σ.1.1 5), .int (os_f σ.1.1 6)])) :: (dC (fun p => ad (p + 8)) t σ.1.2.2.1 ++ bC (fun p => ad (p + 12)) t σ.1.2.2.2)) ++ ([kc0 ad σ.2.2.2.2.2.2.2] ++ (nC (fun p => ad (p + 15)) t σ.2.1 ++ (nC (fun p => ad (p + 29)) t σ.2.2.1 ++ (sC aa (fun p => ad (p + 43)) t (σ.2.2.2.1, σ.2.2.2.2.1) ++ (xC (fun p => ad (p + 46)) t σ.2.2.2.2.2.1 ++ (rC (fun p => ad (p + 48)) t σ.2.2.2.2.2.2.1 ++ rs)))))))) (oC (fun p => ad (p + 2)) t σ.1.2.1 ++ (((ad (0 + 1), .inr (4, [.ref (ad (1 + 1)), .ref (ad (7 + 1)), .ref (ad (11 + 1)), .int (os_f σ.1.1 3), .int (os_f σ.1.1 4), .int (os_f σ.1.1 5), .int (os_f σ.1.1 6)])) :: (dC (fun p => ad (p + 8)) t σ.1.2.2.1 ++ bC (fun p => ad (p + 12)) t σ.1.2.2.2)) ++ ([kc0 ad σ.2.2.2.2.2.2.2] ++ (nC (fun p => ad (p + 15)) t σ.2.1 ++ (nC (fun p => ad (p + 29)) t σ.2.2.1 ++ (sC aa (fun p => ad (p + 43)) t (σ.2.2.2.1, σ.2.2.2.2.1) ++ (xC (fun p => ad (p + 46)) t σ.2.2.2.2.2.1 ++ (rC (fun p => ad (p + 48)) t σ.2.2.2.2.2.2.1 ++ rs)))))))) (some (.int q))) (hR : fr + 1 ≤ R.frames ∧ 8 + (6 + 11) + lo ≤ R.locals) (hkn : k ≤ R.cells ∧ n ≤ R.slots) (hcat : (rest.map fun v => v.category).sum ≤ 8) (hd : decode cc pc = .ok (.invokevirtual 169, 3)) (kk : J k n (kW aa ad t σ rs) (pc + 3) L (.int q :: rest)) : J k n (kW aa ad t σ rs) pc L (.int x1 :: .int x0 :: .ref (ad 2) :: rest) := j_callVi (na := 2) (As := [.int x0, .int x1]) (q0 := 2) (ci := 5) g hC q_i_X3_leastLoyalty q_s_X3_leastLoyalty rfl rfl rfl q_c_X3_leastLoyalty q_l_X8_169 q_n_X3 (by decide +kernel) rfl hR hkn hcat (((pb1 ([kc0 ad σ.2.2.2.2.2.2.2]) (nC (fun p => ad (p + 1)) t σ.1) (nC (fun p => ad (p + 15)) t σ.2.1 ++ (nC (fun p => ad (p + 29)) t σ.2.2.1 ++ (sC aa (fun p => ad (p + 43)) t (σ.2.2.2.1, σ.2.2.2.2.1) ++ (xC (fun p => ad (p + 46)) t σ.2.2.2.2.2.1 ++ (rC (fun p => ad (p + 48)) t σ.2.2.2.2.2.2.1 ++ rs))))))).trans (pm_n1 (fun p => ad (p + 1)) t σ.1 ([kc0 ad σ.2.2.2.2.2.2.2] ++ (nC (fun p => ad (p + 15)) t σ.2.1 ++ (nC (fun p => ad (p + 29)) t σ.2.2.1 ++ (sC aa (fun p => ad (p + 43)) t (σ.2.2.2.1, σ.2.2.2.2.1) ++ (xC (fun p => ad (p + 46)) t σ.2.2.2.2.2.1 ++ (rC (fun p => ad (p + 48)) t σ.2.2.2.2.2.2.1 ++ rs)))))))) ((((pb1 ([kc0 ad σ.2.2.2.2.2.2.2]) (nC (fun p => ad (p + 1)) t σ.1) (nC (fun p => ad (p + 15)) t σ.2.1 ++ (nC (fun p => ad (p + 29)) t σ.2.2.1 ++ (sC aa (fun p => ad (p + 43)) t (σ.2.2.2.1, σ.2.2.2.2.1) ++ (xC (fun p => ad (p + 46)) t σ.2.2.2.2.2.1 ++ (rC (fun p => ad (p + 48)) t σ.2.2.2.2.2.2.1 ++ rs))))))).trans (pm_n1 (fun p => ad (p + 1)) t σ.1 ([kc0 ad σ.2.2.2.2.2.2.2] ++ (nC (fun p => ad (p + 15)) t σ.2.1 ++ (nC (fun p => ad (p + 29)) t σ.2.2.1 ++ (sC aa (fun p => ad (p + 43)) t (σ.2.2.2.1, σ.2.2.2.2.1) ++ (xC (fun p => ad (p + 46)) t σ.2.2.2.2.2.1 ++ (rC (fun p => ad (p + 48)) t σ.2.2.2.2.2.2.1 ++ rs))))))))).symm hd kk rfl
set_option maxRecDepth 100000 in
set_option maxHeartbeats 4000000 in
theorem cX8_greatestSeverity_ {D : va_G} {t : Nat → ClassId} {aa : gx_AA} {l : Launch} {ad : Nat → Nat} {rs : va_W} {σ : CS} {p1 : Int32} {p2 : Int32} {q : (Int32 × CS)} (hf : fX8_greatestSeverity σ p1 p2 = some q) : gx_C D t (gx_E0 aa) l yX8_greatestSeverity cX8_greatestSeverity 3 (some .int) 3 68 [.ref (ad 0), .int p1, .int p2] (kW aa ad t σ rs) (kW aa ad t q.2 rs) (some (.int q.1)) := by
  refine gx_intro_i (by decide) (Nat.le_of_ble_eq_true rfl) (fun J g hE0 => ?_)
  have hE : ∀ (v : Int32) (σ : CS) (pc : Nat) (L : List (Nat × Value)), some (v, σ) = some q → decode cX8_greatestSeverity pc = .ok (.ireturn, 1) → narrow .int (.int v) = .int v → J 0 0 (kW aa ad t σ rs) pc L [.int v] := fun v σ pc L h h1 h2 => by cases h; exact hE0 pc L h1 h2
  unfold fX8_greatestSeverity at hf
  show J 0 0 (kW aa ad t σ rs) 0 [(0, .ref (ad 0)), (1, .int p1), (2, .int p2)] []
  refine j_aload_n (pc := 0) g 0 dX8_greatestSeverity_0 rfl ?_
  refine j_iload_n (pc := 1) g 1 dX8_greatestSeverity_1 rfl ?_
  obtain ⟨r2, h_2, hf⟩ := gx_bs hf
  refine cK_X8_X8_requireOfficer_0 (σ := σ) (pc := 2) g (cX8_requireOfficer_ h_2) ⟨Nat.le_of_ble_eq_true rfl, Nat.le_of_ble_eq_true rfl⟩ ⟨Nat.zero_le _, Nat.zero_le _⟩ (Nat.le_of_ble_eq_true rfl) dX8_greatestSeverity_2 ?_
  refine j_aload_n (pc := 5) g 0 dX8_greatestSeverity_5 rfl ?_
  refine j_iload_n (pc := 6) g 2 dX8_greatestSeverity_6 rfl ?_
  obtain ⟨r7, h_7, hf⟩ := gx_bs hf
  refine cK_X8_X8_requireOfficer_0 (σ := r2) (pc := 7) g (cX8_requireOfficer_ h_7) ⟨Nat.le_of_ble_eq_true rfl, Nat.le_of_ble_eq_true rfl⟩ ⟨Nat.zero_le _, Nat.zero_le _⟩ (Nat.le_of_ble_eq_true rfl) dX8_greatestSeverity_7 ?_
  refine j_aload_n (pc := 10) g 0 dX8_greatestSeverity_10 rfl ?_
  refine j_iload_n (pc := 11) g 1 dX8_greatestSeverity_11 rfl ?_
  refine j_iload_n (pc := 12) g 2 dX8_greatestSeverity_12 rfl ?_
  obtain ⟨r13, h_13, hf⟩ := gx_bs hf
  refine cK_X8_X8_requireWay_0 (σ := r7) (pc := 13) g (cX8_requireWay_ h_13) ⟨Nat.le_of_ble_eq_true rfl, Nat.le_of_ble_eq_true rfl⟩ ⟨Nat.zero_le _, Nat.zero_le _⟩ (Nat.le_of_ble_eq_true rfl) dX8_greatestSeverity_13 ?_
  refine j_aload_n (pc := 16) g 0 dX8_greatestSeverity_16 rfl ?_
  refine gK_X8_0_0 (σ := r13) (pc := 17) g dX8_greatestSeverity_17 ?_
  refine gK_X8_1_0 (σ := r13) (pc := 20) g dX8_greatestSeverity_20 ?_
  refine j_iload_n (pc := 23) g 1 dX8_greatestSeverity_23 rfl ?_
  refine j_iload_n (pc := 24) g 2 dX8_greatestSeverity_24 rfl ?_
  obtain ⟨r25, h_25, hf⟩ := gx_bs hf
  refine cK_X8_X3_leastLoyalty_2 (σ := r13) (pc := 25) g (cX3_leastLoyalty_ (ad := (fun p => ad (p + 2))) h_25) ⟨Nat.le_of_ble_eq_true rfl, Nat.le_of_ble_eq_true rfl⟩ ⟨Nat.zero_le _, Nat.zero_le _⟩ (Nat.le_of_ble_eq_true rfl) dX8_greatestSeverity_25 ?_
  exact hE _ _ _ _ hf dX8_greatestSeverity_28 rfl
theorem cK_X8_X3_firstRefuser_2 {D : va_G} {t : Nat → ClassId} {aa : gx_AA} {l : Launch} {R : Room} {cc : ByteArray} {nL : Nat} {J : gx_J} {ad : Nat → Nat} {rs : va_W} {k n pc : Nat} {L : List (Nat × Value)} {rest : List Value} (g : gx_G D t (gx_E0 aa) l R cc RX8 nL J) {σ : CS} {x0 x1 x2 : Int32} {q : Int32} {fr lo : Nat} (hC : gx_C D t (gx_E0 aa) l yX3_firstRefuser cX3_firstRefuser 7 (some .int) fr lo [.ref (ad 2), .int x0, .int x1, .int x2] (oC (fun p => ad (p + 2)) t σ.1.2.1 ++ (((ad (0 + 1), .inr (4, [.ref (ad (1 + 1)), .ref (ad (7 + 1)), .ref (ad (11 + 1)), .int (os_f σ.1.1 3), .int (os_f σ.1.1 4), .int (os_f σ.1.1 5), .int (os_f σ.1.1 6)])) :: (dC (fun p => ad (p + 8)) t σ.1.2.2.1 ++ bC (fun p => ad (p + 12)) t σ.1.2.2.2)) ++ ([kc0 ad σ.2.2.2.2.2.2.2] ++ (nC (fun p => ad (p + 15)) t σ.2.1 ++ (nC (fun p => ad (p + 29)) t σ.2.2.1 ++ (sC aa (fun p => ad (p + 43)) t (σ.2.2.2.1, σ.2.2.2.2.1) ++ (xC (fun p => ad (p + 46)) t σ.2.2.2.2.2.1 ++ (rC (fun p => ad (p + 48)) t σ.2.2.2.2.2.2.1 ++ rs)))))))) (oC (fun p => ad (p + 2)) t σ.1.2.1 ++ (((ad (0 + 1), .inr (4, [.ref (ad (1 + 1)), .ref (ad (7 + 1)), .ref (ad (11 + 1)), .int (os_f σ.1.1 3), .int (os_f σ.1.1 4), .int (os_f σ.1.1 5), .int (os_f σ.1.1 6)])) :: (dC (fun p => ad (p + 8)) t σ.1.2.2.1 ++ bC (fun p => ad (p + 12)) t σ.1.2.2.2)) ++ ([kc0 ad σ.2.2.2.2.2.2.2] ++ (nC (fun p => ad (p + 15)) t σ.2.1 ++ (nC (fun p => ad (p + 29)) t σ.2.2.1 ++ (sC aa (fun p => ad (p + 43)) t (σ.2.2.2.1, σ.2.2.2.2.1) ++ (xC (fun p => ad (p + 46)) t σ.2.2.2.2.2.1 ++ (rC (fun p => ad (p + 48)) t σ.2.2.2.2.2.2.1 ++ rs)))))))) (some (.int q))) (hR : fr + 1 ≤ R.frames ∧ 8 + (7 + 11) + lo ≤ R.locals) (hkn : k ≤ R.cells ∧ n ≤ R.slots) (hcat : (rest.map fun v => v.category).sum ≤ 8) (hd : decode cc pc = .ok (.invokevirtual 172, 3)) (kk : J k n (kW aa ad t σ rs) (pc + 3) L (.int q :: rest)) : J k n (kW aa ad t σ rs) pc L (.int x2 :: .int x1 :: .int x0 :: .ref (ad 2) :: rest) := j_callVi (na := 3) (As := [.int x0, .int x1, .int x2]) (q0 := 2) (ci := 5) g hC q_i_X3_firstRefuser q_s_X3_firstRefuser rfl rfl rfl q_c_X3_firstRefuser q_l_X8_172 q_n_X3 (by decide +kernel) rfl hR hkn hcat (((pb1 ([kc0 ad σ.2.2.2.2.2.2.2]) (nC (fun p => ad (p + 1)) t σ.1) (nC (fun p => ad (p + 15)) t σ.2.1 ++ (nC (fun p => ad (p + 29)) t σ.2.2.1 ++ (sC aa (fun p => ad (p + 43)) t (σ.2.2.2.1, σ.2.2.2.2.1) ++ (xC (fun p => ad (p + 46)) t σ.2.2.2.2.2.1 ++ (rC (fun p => ad (p + 48)) t σ.2.2.2.2.2.2.1 ++ rs))))))).trans (pm_n1 (fun p => ad (p + 1)) t σ.1 ([kc0 ad σ.2.2.2.2.2.2.2] ++ (nC (fun p => ad (p + 15)) t σ.2.1 ++ (nC (fun p => ad (p + 29)) t σ.2.2.1 ++ (sC aa (fun p => ad (p + 43)) t (σ.2.2.2.1, σ.2.2.2.2.1) ++ (xC (fun p => ad (p + 46)) t σ.2.2.2.2.2.1 ++ (rC (fun p => ad (p + 48)) t σ.2.2.2.2.2.2.1 ++ rs)))))))) ((((pb1 ([kc0 ad σ.2.2.2.2.2.2.2]) (nC (fun p => ad (p + 1)) t σ.1) (nC (fun p => ad (p + 15)) t σ.2.1 ++ (nC (fun p => ad (p + 29)) t σ.2.2.1 ++ (sC aa (fun p => ad (p + 43)) t (σ.2.2.2.1, σ.2.2.2.2.1) ++ (xC (fun p => ad (p + 46)) t σ.2.2.2.2.2.1 ++ (rC (fun p => ad (p + 48)) t σ.2.2.2.2.2.2.1 ++ rs))))))).trans (pm_n1 (fun p => ad (p + 1)) t σ.1 ([kc0 ad σ.2.2.2.2.2.2.2] ++ (nC (fun p => ad (p + 15)) t σ.2.1 ++ (nC (fun p => ad (p + 29)) t σ.2.2.1 ++ (sC aa (fun p => ad (p + 43)) t (σ.2.2.2.1, σ.2.2.2.2.1) ++ (xC (fun p => ad (p + 46)) t σ.2.2.2.2.2.1 ++ (rC (fun p => ad (p + 48)) t σ.2.2.2.2.2.2.1 ++ rs))))))))).symm hd kk rfl
set_option maxRecDepth 100000 in
set_option maxHeartbeats 4000000 in
theorem tX8_greatestSeverityByTrial_19 {D : va_G} {t : Nat → ClassId} {aa : gx_AA} {l : Launch} {J : gx_J} {ad : Nat → Nat} {rs : va_W} {q : (Int32 × CS)} (g : gx_G D t (gx_E0 aa) l ({ frames := 3, cells := 0, slots := 0, locals := 68 }) cX8_greatestSeverityByTrial RX8 4 J) (hE : ∀ (v : Int32) (σ : CS) (pc : Nat) (L : List (Nat × Value)), some (v, σ) = some q → decode cX8_greatestSeverityByTrial pc = .ok (.ireturn, 1) → narrow .int (.int v) = .int v → J 0 0 (kW aa ad t σ rs) pc L [.int v])  : ∀ (n : Nat) (σ : CS) (v1 : Int32) (v2 : Int32) (v3 : Int32), fX8_greatestSeverityByTrial_19 n σ v1 v2 v3 = some q → J 0 0 (kW aa ad t σ rs) 19 [(0, .ref (ad 0)), (1, .int v1), (2, .int v2), (3, .int v3)] [] := by
  intro n
  induction n with
  | zero => intro σ v1 v2 v3 hf; cases hf
  | succ n ih =>
    intro σ v1 v2 v3 hf
    replace hf := (fX8_greatestSeverityByTrial_19_s n σ v1 v2 v3).symm.trans hf
    refine j_iload_n (pc := 19) g 3 dX8_greatestSeverityByTrial_19 rfl ?_
    refine j_if_le (tgt := 46) (pc := 20) g dX8_greatestSeverityByTrial_20 (by decide) (fun c_20 => ?_) (fun c_20 => ?_)
    · have hf := gx_it c_20 hf
      refine j_iload_n (pc := 46) g 3 dX8_greatestSeverityByTrial_46 rfl ?_
      exact hE _ _ _ _ hf dX8_greatestSeverityByTrial_47 rfl
    · have hf := gx_if c_20 hf
      refine j_aload_n (pc := 23) g 0 dX8_greatestSeverityByTrial_23 rfl ?_
      refine gK_X8_0_0 (σ := σ) (pc := 24) g dX8_greatestSeverityByTrial_24 ?_
      refine gK_X8_1_0 (σ := σ) (pc := 27) g dX8_greatestSeverityByTrial_27 ?_
      refine j_iload_n (pc := 30) g 1 dX8_greatestSeverityByTrial_30 rfl ?_
      refine j_iload_n (pc := 31) g 2 dX8_greatestSeverityByTrial_31 rfl ?_
      refine j_iload_n (pc := 32) g 3 dX8_greatestSeverityByTrial_32 rfl ?_
      obtain ⟨r33, h_33, hf⟩ := gx_bs hf
      refine cK_X8_X3_firstRefuser_2 (σ := σ) (pc := 33) g (cX3_firstRefuser_ (ad := (fun p => ad (p + 2))) h_33) ⟨Nat.le_of_ble_eq_true rfl, Nat.le_of_ble_eq_true rfl⟩ ⟨Nat.zero_le _, Nat.zero_le _⟩ (Nat.le_of_ble_eq_true rfl) dX8_greatestSeverityByTrial_33 ?_
      refine j_iconst (v := -1) (pc := 36) g dX8_greatestSeverityByTrial_36 (by decide) ?_
      refine j_icmp_eq (tgt := 46) (pc := 37) g dX8_greatestSeverityByTrial_37 (by decide) (fun c_37 => ?_) (fun c_37 => ?_)
      · have hf := gx_it c_37 hf
        refine j_iload_n (pc := 46) g 3 dX8_greatestSeverityByTrial_46 rfl ?_
        exact hE _ _ _ _ hf dX8_greatestSeverityByTrial_47 rfl
      · have hf := gx_if c_37 hf
        refine j_iinc (v := v3 + (-1)) (L' := [(3, .int (v3 + (-1))), (0, .ref (ad 0)), (1, .int v1), (2, .int v2)]) (pc := 40) g 3 dX8_greatestSeverityByTrial_40 rfl rfl (Nat.le_of_ble_eq_true rfl) rfl ?_
        refine j_goto (tgt := 19) (pc := 43) g dX8_greatestSeverityByTrial_43 (by decide) ?_
        refine j_sub (pc := 19) g [1, 2, 3, 0] rfl ?_
        exact ih σ v1 v2 (v3 + (-1)) hf
set_option maxRecDepth 100000 in
set_option maxHeartbeats 4000000 in
theorem cX8_greatestSeverityByTrial_ {D : va_G} {t : Nat → ClassId} {aa : gx_AA} {l : Launch} {ad : Nat → Nat} {rs : va_W} {σ : CS} {p1 : Int32} {p2 : Int32} {q : (Int32 × CS)} (hf : fX8_greatestSeverityByTrial σ p1 p2 = some q) : gx_C D t (gx_E0 aa) l yX8_greatestSeverityByTrial cX8_greatestSeverityByTrial 4 (some .int) 3 68 [.ref (ad 0), .int p1, .int p2] (kW aa ad t σ rs) (kW aa ad t q.2 rs) (some (.int q.1)) := by
  refine gx_intro_i (by decide) (Nat.le_of_ble_eq_true rfl) (fun J g hE0 => ?_)
  have hE : ∀ (v : Int32) (σ : CS) (pc : Nat) (L : List (Nat × Value)), some (v, σ) = some q → decode cX8_greatestSeverityByTrial pc = .ok (.ireturn, 1) → narrow .int (.int v) = .int v → J 0 0 (kW aa ad t σ rs) pc L [.int v] := fun v σ pc L h h1 h2 => by cases h; exact hE0 pc L h1 h2
  unfold fX8_greatestSeverityByTrial at hf
  show J 0 0 (kW aa ad t σ rs) 0 [(0, .ref (ad 0)), (1, .int p1), (2, .int p2)] []
  refine j_aload_n (pc := 0) g 0 dX8_greatestSeverityByTrial_0 rfl ?_
  refine j_iload_n (pc := 1) g 1 dX8_greatestSeverityByTrial_1 rfl ?_
  obtain ⟨r2, h_2, hf⟩ := gx_bs hf
  refine cK_X8_X8_requireOfficer_0 (σ := σ) (pc := 2) g (cX8_requireOfficer_ h_2) ⟨Nat.le_of_ble_eq_true rfl, Nat.le_of_ble_eq_true rfl⟩ ⟨Nat.zero_le _, Nat.zero_le _⟩ (Nat.le_of_ble_eq_true rfl) dX8_greatestSeverityByTrial_2 ?_
  refine j_aload_n (pc := 5) g 0 dX8_greatestSeverityByTrial_5 rfl ?_
  refine j_iload_n (pc := 6) g 2 dX8_greatestSeverityByTrial_6 rfl ?_
  obtain ⟨r7, h_7, hf⟩ := gx_bs hf
  refine cK_X8_X8_requireOfficer_0 (σ := r2) (pc := 7) g (cX8_requireOfficer_ h_7) ⟨Nat.le_of_ble_eq_true rfl, Nat.le_of_ble_eq_true rfl⟩ ⟨Nat.zero_le _, Nat.zero_le _⟩ (Nat.le_of_ble_eq_true rfl) dX8_greatestSeverityByTrial_7 ?_
  refine j_aload_n (pc := 10) g 0 dX8_greatestSeverityByTrial_10 rfl ?_
  refine j_iload_n (pc := 11) g 1 dX8_greatestSeverityByTrial_11 rfl ?_
  refine j_iload_n (pc := 12) g 2 dX8_greatestSeverityByTrial_12 rfl ?_
  obtain ⟨r13, h_13, hf⟩ := gx_bs hf
  refine cK_X8_X8_requireWay_0 (σ := r7) (pc := 13) g (cX8_requireWay_ h_13) ⟨Nat.le_of_ble_eq_true rfl, Nat.le_of_ble_eq_true rfl⟩ ⟨Nat.zero_le _, Nat.zero_le _⟩ (Nat.le_of_ble_eq_true rfl) dX8_greatestSeverityByTrial_13 ?_
  refine j_bipush (v := 100) (pc := 16) g dX8_greatestSeverityByTrial_16 (by decide) ?_
  refine j_istore_n (L' := [(3, .int (100 : Int32)), (0, .ref (ad 0)), (1, .int p1), (2, .int p2)]) (pc := 18) g dX8_greatestSeverityByTrial_18 rfl (Nat.le_of_ble_eq_true rfl) rfl ?_
  refine j_sub (pc := 19) g [1, 2, 3, 0] rfl ?_
  exact tX8_greatestSeverityByTrial_19 g hE 2000 r13 p1 p2 (100 : Int32) hf

set_option maxRecDepth 100000 in
set_option maxHeartbeats 4000000 in
theorem cX8_firstRefusal_ {D : va_G} {t : Nat → ClassId} {aa : gx_AA} {l : Launch} {ad : Nat → Nat} {rs : va_W} {σ : CS} {p1 : Int32} {p2 : Int32} {p3 : Int32} {q : (Int32 × CS)} (hf : fX8_firstRefusal σ p1 p2 p3 = some q) : gx_C D t (gx_E0 aa) l yX8_firstRefusal cX8_firstRefusal 5 (some .int) 3 68 [.ref (ad 0), .int p1, .int p2, .int p3] (kW aa ad t σ rs) (kW aa ad t q.2 rs) (some (.int q.1)) := by
  refine gx_intro_i (by decide) (Nat.le_of_ble_eq_true rfl) (fun J g hE0 => ?_)
  have hE : ∀ (v : Int32) (σ : CS) (pc : Nat) (L : List (Nat × Value)), some (v, σ) = some q → decode cX8_firstRefusal pc = .ok (.ireturn, 1) → narrow .int (.int v) = .int v → J 0 0 (kW aa ad t σ rs) pc L [.int v] := fun v σ pc L h h1 h2 => by cases h; exact hE0 pc L h1 h2
  unfold fX8_firstRefusal at hf
  show J 0 0 (kW aa ad t σ rs) 0 [(0, .ref (ad 0)), (1, .int p1), (2, .int p2), (3, .int p3)] []
  refine j_aload_n (pc := 0) g 0 dX8_firstRefusal_0 rfl ?_
  refine j_iload_n (pc := 1) g 1 dX8_firstRefusal_1 rfl ?_
  obtain ⟨r2, h_2, hf⟩ := gx_bs hf
  refine cK_X8_X8_requireOfficer_0 (σ := σ) (pc := 2) g (cX8_requireOfficer_ h_2) ⟨Nat.le_of_ble_eq_true rfl, Nat.le_of_ble_eq_true rfl⟩ ⟨Nat.zero_le _, Nat.zero_le _⟩ (Nat.le_of_ble_eq_true rfl) dX8_firstRefusal_2 ?_
  refine j_aload_n (pc := 5) g 0 dX8_firstRefusal_5 rfl ?_
  refine j_iload_n (pc := 6) g 2 dX8_firstRefusal_6 rfl ?_
  obtain ⟨r7, h_7, hf⟩ := gx_bs hf
  refine cK_X8_X8_requireOfficer_0 (σ := r2) (pc := 7) g (cX8_requireOfficer_ h_7) ⟨Nat.le_of_ble_eq_true rfl, Nat.le_of_ble_eq_true rfl⟩ ⟨Nat.zero_le _, Nat.zero_le _⟩ (Nat.le_of_ble_eq_true rfl) dX8_firstRefusal_7 ?_
  refine j_iload_n (pc := 10) g 3 dX8_firstRefusal_10 rfl ?_
  refine j_if_lt (tgt := 20) (pc := 11) g dX8_firstRefusal_11 (by decide) (fun c_11 => ?_) (fun c_11 => ?_)
  · have hf := gx_it c_11 hf
    cases hf
  · have hf := gx_if c_11 hf
    refine j_iload_n (pc := 14) g 3 dX8_firstRefusal_14 rfl ?_
    refine j_bipush (v := 100) (pc := 15) g dX8_firstRefusal_15 (by decide) ?_
    refine j_icmp_le (tgt := 30) (pc := 17) g dX8_firstRefusal_17 (by decide) (fun c_17 => ?_) (fun c_17 => ?_)
    · have hf := gx_it c_17 hf
      refine j_aload_n (pc := 30) g 0 dX8_firstRefusal_30 rfl ?_
      refine j_iload_n (pc := 31) g 1 dX8_firstRefusal_31 rfl ?_
      refine j_iload_n (pc := 32) g 2 dX8_firstRefusal_32 rfl ?_
      obtain ⟨r33, h_33, hf⟩ := gx_bs hf
      refine cK_X8_X8_requireWay_0 (σ := r7) (pc := 33) g (cX8_requireWay_ h_33) ⟨Nat.le_of_ble_eq_true rfl, Nat.le_of_ble_eq_true rfl⟩ ⟨Nat.zero_le _, Nat.zero_le _⟩ (Nat.le_of_ble_eq_true rfl) dX8_firstRefusal_33 ?_
      refine j_aload_n (pc := 36) g 0 dX8_firstRefusal_36 rfl ?_
      refine gK_X8_0_0 (σ := r33) (pc := 37) g dX8_firstRefusal_37 ?_
      refine gK_X8_1_0 (σ := r33) (pc := 40) g dX8_firstRefusal_40 ?_
      refine j_iload_n (pc := 43) g 1 dX8_firstRefusal_43 rfl ?_
      refine j_iload_n (pc := 44) g 2 dX8_firstRefusal_44 rfl ?_
      refine j_iload_n (pc := 45) g 3 dX8_firstRefusal_45 rfl ?_
      obtain ⟨r46, h_46, hf⟩ := gx_bs hf
      refine cK_X8_X3_firstRefuser_2 (σ := r33) (pc := 46) g (cX3_firstRefuser_ (ad := (fun p => ad (p + 2))) h_46) ⟨Nat.le_of_ble_eq_true rfl, Nat.le_of_ble_eq_true rfl⟩ ⟨Nat.zero_le _, Nat.zero_le _⟩ (Nat.le_of_ble_eq_true rfl) dX8_firstRefusal_46 ?_
      refine j_istore (L' := [(4, .int r46), (0, .ref (ad 0)), (1, .int p1), (2, .int p2), (3, .int p3)]) (pc := 49) g dX8_firstRefusal_49 (Nat.le_of_ble_eq_true rfl) rfl ?_
      refine j_iload (pc := 51) g 0 dX8_firstRefusal_51 rfl ?_
      refine j_iconst (v := -1) (pc := 53) g dX8_firstRefusal_53 (by decide) ?_
      refine j_icmp_ne (tgt := 67) (pc := 54) g dX8_firstRefusal_54 (by decide) (fun c_54 => ?_) (fun c_54 => ?_)
      · have hf := gx_if c_54 hf
        refine j_iload (pc := 67) g 0 dX8_firstRefusal_67 rfl ?_
        exact hE _ _ _ _ hf dX8_firstRefusal_69 rfl
      · have hf := gx_it c_54 hf
        cases hf
    · have hf := gx_if c_17 hf
      cases hf
theorem cK_X8_X8_requireOrder_0 {D : va_G} {t : Nat → ClassId} {aa : gx_AA} {l : Launch} {R : Room} {cc : ByteArray} {nL : Nat} {J : gx_J} {ad : Nat → Nat} {rs : va_W} {k n pc : Nat} {L : List (Nat × Value)} {rest : List Value} (g : gx_G D t (gx_E0 aa) l R cc RX8 nL J) {σ : CS} {x0 : Int32} {q : CS} {fr lo : Nat} (hC : gx_C D t (gx_E0 aa) l yX8_requireOrder cX8_requireOrder 2 none fr lo [.ref (ad 0), .int x0] (kW aa ad t σ rs) (kW aa ad t q rs) none) (hR : fr + 1 ≤ R.frames ∧ 8 + (2 + 11) + lo ≤ R.locals) (hkn : k ≤ R.cells ∧ n ≤ R.slots) (hcat : (rest.map fun v => v.category).sum ≤ 8) (hd : decode cc pc = .ok (.invokevirtual 191, 3)) (kk : J k n (kW aa ad t q rs) (pc + 3) L (rest)) : J k n (kW aa ad t σ rs) pc L (.int x0 :: .ref (ad 0) :: rest) := j_callVv (na := 1) (As := [.int x0]) (q0 := 0) (ci := 9) g hC q_i_X8_requireOrder q_s_X8_requireOrder rfl rfl rfl q_c_X8_requireOrder q_l_X8_191 q_n_X8 (by decide +kernel) rfl hR hkn hcat (.refl _) (.refl _) hd kk rfl
theorem gK_X8_3_0 {D : va_G} {t : Nat → ClassId} {aa : gx_AA} {l : Launch} {R : Room} {cc : ByteArray} {nL : Nat} {J : gx_J} {ad : Nat → Nat} {rs : va_W} {k n pc : Nat} {L : List (Nat × Value)} {st : List Value} (g : gx_G D t (gx_E0 aa) l R cc RX8 nL J) {σ : CS} (hd : decode cc pc = .ok (.getfield 194, 3)) (kk : J k n (kW aa ad t σ rs) (pc + 3) L (.ref (ad 9) :: st)) : J k n (kW aa ad t σ rs) pc L (.ref (ad 8) :: st) := j_get g in_X4 8 rfl rfl 0 (by decide) q_f_X8_194 rfl rfl hd kk
theorem lK_X8_3_0 {D : va_G} {t : Nat → ClassId} {aa : gx_AA} {l : Launch} {R : Room} {cc : ByteArray} {nL : Nat} {J : gx_J} {ad : Nat → Nat} {rs : va_W} {k n pc : Nat} {L : List (Nat × Value)} {st : List Value} (g : gx_G D t (gx_E0 aa) l R cc RX8 nL J) {σ : CS} {i : Int32} (hin : gx_in i 6) (hd : decode cc pc = .ok (.iaload, 1)) (kk : J k n (kW aa ad t σ rs) (pc + 1) L (.int (os_a σ.1.2.2.1 0 i.toNatClampNeg) :: st)) : J k n (kW aa ad t σ rs) pc L (.int i :: .ref (ad 9) :: st) := j_iald g 9 rfl hin hd kk
set_option maxRecDepth 100000 in
set_option maxHeartbeats 4000000 in
theorem cX8_holder_ {D : va_G} {t : Nat → ClassId} {aa : gx_AA} {l : Launch} {ad : Nat → Nat} {rs : va_W} {σ : CS} {p1 : Int32} {q : (Int32 × CS)} (hf : fX8_holder σ p1 = some q) : gx_C D t (gx_E0 aa) l yX8_holder cX8_holder 2 (some .int) 1 21 [.ref (ad 0), .int p1] (kW aa ad t σ rs) (kW aa ad t q.2 rs) (some (.int q.1)) := by
  refine gx_intro_i (by decide) (Nat.le_of_ble_eq_true rfl) (fun J g hE0 => ?_)
  have hE : ∀ (v : Int32) (σ : CS) (pc : Nat) (L : List (Nat × Value)), some (v, σ) = some q → decode cX8_holder pc = .ok (.ireturn, 1) → narrow .int (.int v) = .int v → J 0 0 (kW aa ad t σ rs) pc L [.int v] := fun v σ pc L h h1 h2 => by cases h; exact hE0 pc L h1 h2
  unfold fX8_holder at hf
  show J 0 0 (kW aa ad t σ rs) 0 [(0, .ref (ad 0)), (1, .int p1)] []
  refine j_aload_n (pc := 0) g 0 dX8_holder_0 rfl ?_
  refine j_iload_n (pc := 1) g 1 dX8_holder_1 rfl ?_
  obtain ⟨r2, h_2, hf⟩ := gx_bs hf
  refine cK_X8_X8_requireOrder_0 (σ := σ) (pc := 2) g (cX8_requireOrder_ h_2) ⟨Nat.le_of_ble_eq_true rfl, Nat.le_of_ble_eq_true rfl⟩ ⟨Nat.zero_le _, Nat.zero_le _⟩ (Nat.le_of_ble_eq_true rfl) dX8_holder_2 ?_
  refine j_aload_n (pc := 5) g 0 dX8_holder_5 rfl ?_
  refine gK_X8_0_0 (σ := r2) (pc := 6) g dX8_holder_6 ?_
  refine gK_X8_1_1 (σ := r2) (pc := 9) g dX8_holder_9 ?_
  refine gK_X8_3_0 (σ := r2) (pc := 12) g dX8_holder_12 ?_
  refine j_iload_n (pc := 15) g 1 dX8_holder_15 rfl ?_
  obtain ⟨h_16, hf⟩ := gx_ck hf
  refine lK_X8_3_0 (σ := r2) (pc := 16) g h_16 dX8_holder_16 ?_
  exact hE _ _ _ _ hf dX8_holder_17 rfl
theorem gK_X8_3_1 {D : va_G} {t : Nat → ClassId} {aa : gx_AA} {l : Launch} {R : Room} {cc : ByteArray} {nL : Nat} {J : gx_J} {ad : Nat → Nat} {rs : va_W} {k n pc : Nat} {L : List (Nat × Value)} {st : List Value} (g : gx_G D t (gx_E0 aa) l R cc RX8 nL J) {σ : CS} (hd : decode cc pc = .ok (.getfield 197, 3)) (kk : J k n (kW aa ad t σ rs) (pc + 3) L (.ref (ad 10) :: st)) : J k n (kW aa ad t σ rs) pc L (.ref (ad 8) :: st) := j_get g in_X4 8 rfl rfl 1 (by decide) q_f_X8_197 rfl rfl hd kk
theorem lK_X8_3_1 {D : va_G} {t : Nat → ClassId} {aa : gx_AA} {l : Launch} {R : Room} {cc : ByteArray} {nL : Nat} {J : gx_J} {ad : Nat → Nat} {rs : va_W} {k n pc : Nat} {L : List (Nat × Value)} {st : List Value} (g : gx_G D t (gx_E0 aa) l R cc RX8 nL J) {σ : CS} {i : Int32} (hin : gx_in i 6) (hd : decode cc pc = .ok (.iaload, 1)) (kk : J k n (kW aa ad t σ rs) (pc + 1) L (.int (os_a σ.1.2.2.1 1 i.toNatClampNeg) :: st)) : J k n (kW aa ad t σ rs) pc L (.int i :: .ref (ad 10) :: st) := j_iald g 10 rfl hin hd kk
set_option maxRecDepth 100000 in
set_option maxHeartbeats 4000000 in
theorem cX8_target_ {D : va_G} {t : Nat → ClassId} {aa : gx_AA} {l : Launch} {ad : Nat → Nat} {rs : va_W} {σ : CS} {p1 : Int32} {q : (Int32 × CS)} (hf : fX8_target σ p1 = some q) : gx_C D t (gx_E0 aa) l yX8_target cX8_target 2 (some .int) 1 21 [.ref (ad 0), .int p1] (kW aa ad t σ rs) (kW aa ad t q.2 rs) (some (.int q.1)) := by
  refine gx_intro_i (by decide) (Nat.le_of_ble_eq_true rfl) (fun J g hE0 => ?_)
  have hE : ∀ (v : Int32) (σ : CS) (pc : Nat) (L : List (Nat × Value)), some (v, σ) = some q → decode cX8_target pc = .ok (.ireturn, 1) → narrow .int (.int v) = .int v → J 0 0 (kW aa ad t σ rs) pc L [.int v] := fun v σ pc L h h1 h2 => by cases h; exact hE0 pc L h1 h2
  unfold fX8_target at hf
  show J 0 0 (kW aa ad t σ rs) 0 [(0, .ref (ad 0)), (1, .int p1)] []
  refine j_aload_n (pc := 0) g 0 dX8_target_0 rfl ?_
  refine j_iload_n (pc := 1) g 1 dX8_target_1 rfl ?_
  obtain ⟨r2, h_2, hf⟩ := gx_bs hf
  refine cK_X8_X8_requireOrder_0 (σ := σ) (pc := 2) g (cX8_requireOrder_ h_2) ⟨Nat.le_of_ble_eq_true rfl, Nat.le_of_ble_eq_true rfl⟩ ⟨Nat.zero_le _, Nat.zero_le _⟩ (Nat.le_of_ble_eq_true rfl) dX8_target_2 ?_
  refine j_aload_n (pc := 5) g 0 dX8_target_5 rfl ?_
  refine gK_X8_0_0 (σ := r2) (pc := 6) g dX8_target_6 ?_
  refine gK_X8_1_1 (σ := r2) (pc := 9) g dX8_target_9 ?_
  refine gK_X8_3_1 (σ := r2) (pc := 12) g dX8_target_12 ?_
  refine j_iload_n (pc := 15) g 1 dX8_target_15 rfl ?_
  obtain ⟨h_16, hf⟩ := gx_ck hf
  refine lK_X8_3_1 (σ := r2) (pc := 16) g h_16 dX8_target_16 ?_
  exact hE _ _ _ _ hf dX8_target_17 rfl
theorem gK_X8_3_2 {D : va_G} {t : Nat → ClassId} {aa : gx_AA} {l : Launch} {R : Room} {cc : ByteArray} {nL : Nat} {J : gx_J} {ad : Nat → Nat} {rs : va_W} {k n pc : Nat} {L : List (Nat × Value)} {st : List Value} (g : gx_G D t (gx_E0 aa) l R cc RX8 nL J) {σ : CS} (hd : decode cc pc = .ok (.getfield 200, 3)) (kk : J k n (kW aa ad t σ rs) (pc + 3) L (.ref (ad 11) :: st)) : J k n (kW aa ad t σ rs) pc L (.ref (ad 8) :: st) := j_get g in_X4 8 rfl rfl 2 (by decide) q_f_X8_200 rfl rfl hd kk
theorem lK_X8_3_2 {D : va_G} {t : Nat → ClassId} {aa : gx_AA} {l : Launch} {R : Room} {cc : ByteArray} {nL : Nat} {J : gx_J} {ad : Nat → Nat} {rs : va_W} {k n pc : Nat} {L : List (Nat × Value)} {st : List Value} (g : gx_G D t (gx_E0 aa) l R cc RX8 nL J) {σ : CS} {i : Int32} (hin : gx_in i 6) (hd : decode cc pc = .ok (.iaload, 1)) (kk : J k n (kW aa ad t σ rs) (pc + 1) L (.int (os_a σ.1.2.2.1 2 i.toNatClampNeg) :: st)) : J k n (kW aa ad t σ rs) pc L (.int i :: .ref (ad 11) :: st) := j_iald g 11 rfl hin hd kk
set_option maxRecDepth 100000 in
set_option maxHeartbeats 4000000 in
theorem cX8_severity_ {D : va_G} {t : Nat → ClassId} {aa : gx_AA} {l : Launch} {ad : Nat → Nat} {rs : va_W} {σ : CS} {p1 : Int32} {q : (Int32 × CS)} (hf : fX8_severity σ p1 = some q) : gx_C D t (gx_E0 aa) l yX8_severity cX8_severity 2 (some .int) 1 21 [.ref (ad 0), .int p1] (kW aa ad t σ rs) (kW aa ad t q.2 rs) (some (.int q.1)) := by
  refine gx_intro_i (by decide) (Nat.le_of_ble_eq_true rfl) (fun J g hE0 => ?_)
  have hE : ∀ (v : Int32) (σ : CS) (pc : Nat) (L : List (Nat × Value)), some (v, σ) = some q → decode cX8_severity pc = .ok (.ireturn, 1) → narrow .int (.int v) = .int v → J 0 0 (kW aa ad t σ rs) pc L [.int v] := fun v σ pc L h h1 h2 => by cases h; exact hE0 pc L h1 h2
  unfold fX8_severity at hf
  show J 0 0 (kW aa ad t σ rs) 0 [(0, .ref (ad 0)), (1, .int p1)] []
  refine j_aload_n (pc := 0) g 0 dX8_severity_0 rfl ?_
  refine j_iload_n (pc := 1) g 1 dX8_severity_1 rfl ?_
  obtain ⟨r2, h_2, hf⟩ := gx_bs hf
  refine cK_X8_X8_requireOrder_0 (σ := σ) (pc := 2) g (cX8_requireOrder_ h_2) ⟨Nat.le_of_ble_eq_true rfl, Nat.le_of_ble_eq_true rfl⟩ ⟨Nat.zero_le _, Nat.zero_le _⟩ (Nat.le_of_ble_eq_true rfl) dX8_severity_2 ?_
  refine j_aload_n (pc := 5) g 0 dX8_severity_5 rfl ?_
  refine gK_X8_0_0 (σ := r2) (pc := 6) g dX8_severity_6 ?_
  refine gK_X8_1_1 (σ := r2) (pc := 9) g dX8_severity_9 ?_
  refine gK_X8_3_2 (σ := r2) (pc := 12) g dX8_severity_12 ?_
  refine j_iload_n (pc := 15) g 1 dX8_severity_15 rfl ?_
  obtain ⟨h_16, hf⟩ := gx_ck hf
  refine lK_X8_3_2 (σ := r2) (pc := 16) g h_16 dX8_severity_16 ?_
  exact hE _ _ _ _ hf dX8_severity_17 rfl
theorem cK_X8_X6_clear_15 {D : va_G} {t : Nat → ClassId} {aa : gx_AA} {l : Launch} {R : Room} {cc : ByteArray} {nL : Nat} {J : gx_J} {ad : Nat → Nat} {rs : va_W} {k n pc : Nat} {L : List (Nat × Value)} {rest : List Value} (g : gx_G D t (gx_E0 aa) l R cc RX8 nL J) {σ : CS} {q : OS} {fr lo : Nat} (hC : gx_C D t (gx_E0 aa) l yX6_clear cX6_clear 1 none fr lo [.ref (ad 46)] (xC (fun p => ad (p + 46)) t σ.2.2.2.2.2.1 ++ ([kc0 ad σ.2.2.2.2.2.2.2] ++ (nC (fun p => ad (p + 1)) t σ.1 ++ (nC (fun p => ad (p + 15)) t σ.2.1 ++ (nC (fun p => ad (p + 29)) t σ.2.2.1 ++ (sC aa (fun p => ad (p + 43)) t (σ.2.2.2.1, σ.2.2.2.2.1) ++ (rC (fun p => ad (p + 48)) t σ.2.2.2.2.2.2.1 ++ rs))))))) (xC (fun p => ad (p + 46)) t q ++ ([kc0 ad σ.2.2.2.2.2.2.2] ++ (nC (fun p => ad (p + 1)) t σ.1 ++ (nC (fun p => ad (p + 15)) t σ.2.1 ++ (nC (fun p => ad (p + 29)) t σ.2.2.1 ++ (sC aa (fun p => ad (p + 43)) t (σ.2.2.2.1, σ.2.2.2.2.1) ++ (rC (fun p => ad (p + 48)) t σ.2.2.2.2.2.2.1 ++ rs))))))) none) (hR : fr + 1 ≤ R.frames ∧ 8 + (1 + 11) + lo ≤ R.locals) (hkn : k ≤ R.cells ∧ n ≤ R.slots) (hcat : (rest.map fun v => v.category).sum ≤ 8) (hd : decode cc pc = .ok (.invokevirtual 261, 3)) (kk : J k n (kW aa ad t (σ.1, (σ.2.1, (σ.2.2.1, (σ.2.2.2.1, (σ.2.2.2.2.1, (q, σ.2.2.2.2.2.2)))))) rs) (pc + 3) L (rest)) : J k n (kW aa ad t σ rs) pc L (.ref (ad 46) :: rest) := j_callVv (na := 0) (As := []) (q0 := 46) (ci := 8) g hC q_i_X6_clear q_s_X6_clear rfl rfl rfl q_c_X6_clear q_l_X8_261 q_n_X6 (by decide +kernel) rfl hR hkn hcat (pb5 ([kc0 ad σ.2.2.2.2.2.2.2]) (nC (fun p => ad (p + 1)) t σ.1) (nC (fun p => ad (p + 15)) t σ.2.1) (nC (fun p => ad (p + 29)) t σ.2.2.1) (sC aa (fun p => ad (p + 43)) t (σ.2.2.2.1, σ.2.2.2.2.1)) (xC (fun p => ad (p + 46)) t σ.2.2.2.2.2.1) (rC (fun p => ad (p + 48)) t σ.2.2.2.2.2.2.1 ++ rs)) ((pb5 ([kc0 ad σ.2.2.2.2.2.2.2]) (nC (fun p => ad (p + 1)) t σ.1) (nC (fun p => ad (p + 15)) t σ.2.1) (nC (fun p => ad (p + 29)) t σ.2.2.1) (sC aa (fun p => ad (p + 43)) t (σ.2.2.2.1, σ.2.2.2.2.1)) (xC (fun p => ad (p + 46)) t q) (rC (fun p => ad (p + 48)) t σ.2.2.2.2.2.2.1 ++ rs))).symm hd kk rfl
theorem cK_X8_X3_write_2_15 {D : va_G} {t : Nat → ClassId} {aa : gx_AA} {l : Launch} {R : Room} {cc : ByteArray} {nL : Nat} {J : gx_J} {ad : Nat → Nat} {rs : va_W} {k n pc : Nat} {L : List (Nat × Value)} {rest : List Value} (g : gx_G D t (gx_E0 aa) l R cc RX8 nL J) {σ : CS} {x0 x1 : Int32} {q : (OS × OS)} {fr lo : Nat} (hC : gx_C D t (gx_E0 aa) l yX3_write cX3_write 6 none fr lo [.ref (ad 2), .int x0, .int x1, .ref (ad 46)] (oC (fun p => ad (p + 2)) t σ.1.2.1 ++ (xC (fun p => ad (p + 46)) t σ.2.2.2.2.2.1 ++ (((ad (0 + 1), .inr (4, [.ref (ad (1 + 1)), .ref (ad (7 + 1)), .ref (ad (11 + 1)), .int (os_f σ.1.1 3), .int (os_f σ.1.1 4), .int (os_f σ.1.1 5), .int (os_f σ.1.1 6)])) :: (dC (fun p => ad (p + 8)) t σ.1.2.2.1 ++ bC (fun p => ad (p + 12)) t σ.1.2.2.2)) ++ ([kc0 ad σ.2.2.2.2.2.2.2] ++ (nC (fun p => ad (p + 15)) t σ.2.1 ++ (nC (fun p => ad (p + 29)) t σ.2.2.1 ++ (sC aa (fun p => ad (p + 43)) t (σ.2.2.2.1, σ.2.2.2.2.1) ++ (rC (fun p => ad (p + 48)) t σ.2.2.2.2.2.2.1 ++ rs)))))))) (oC (fun p => ad (p + 2)) t q.1 ++ (xC (fun p => ad (p + 46)) t q.2 ++ (((ad (0 + 1), .inr (4, [.ref (ad (1 + 1)), .ref (ad (7 + 1)), .ref (ad (11 + 1)), .int (os_f σ.1.1 3), .int (os_f σ.1.1 4), .int (os_f σ.1.1 5), .int (os_f σ.1.1 6)])) :: (dC (fun p => ad (p + 8)) t σ.1.2.2.1 ++ bC (fun p => ad (p + 12)) t σ.1.2.2.2)) ++ ([kc0 ad σ.2.2.2.2.2.2.2] ++ (nC (fun p => ad (p + 15)) t σ.2.1 ++ (nC (fun p => ad (p + 29)) t σ.2.2.1 ++ (sC aa (fun p => ad (p + 43)) t (σ.2.2.2.1, σ.2.2.2.2.1) ++ (rC (fun p => ad (p + 48)) t σ.2.2.2.2.2.2.1 ++ rs)))))))) none) (hR : fr + 1 ≤ R.frames ∧ 8 + (6 + 11) + lo ≤ R.locals) (hkn : k ≤ R.cells ∧ n ≤ R.slots) (hcat : (rest.map fun v => v.category).sum ≤ 8) (hd : decode cc pc = .ok (.invokestatic 278, 3)) (kk : J k n (kW aa ad t ((σ.1.1, (q.1, σ.1.2.2)), (σ.2.1, (σ.2.2.1, (σ.2.2.2.1, (σ.2.2.2.2.1, (q.2, σ.2.2.2.2.2.2)))))) rs) (pc + 3) L (rest)) : J k n (kW aa ad t σ rs) pc L (.ref (ad 46) :: .int x1 :: .int x0 :: .ref (ad 2) :: rest) := j_callSnv (na := 4) (As := [.ref (ad 2), .int x0, .int x1, .ref (ad 46)]) g hC q_e_X8_278 q_t_X3_write q_c_X3_write q_n_X3 (by decide +kernel) rfl hR hkn hcat (((((((pb1 ([kc0 ad σ.2.2.2.2.2.2.2]) (nC (fun p => ad (p + 1)) t σ.1) (nC (fun p => ad (p + 15)) t σ.2.1 ++ (nC (fun p => ad (p + 29)) t σ.2.2.1 ++ (sC aa (fun p => ad (p + 43)) t (σ.2.2.2.1, σ.2.2.2.2.1) ++ (xC (fun p => ad (p + 46)) t σ.2.2.2.2.2.1 ++ (rC (fun p => ad (p + 48)) t σ.2.2.2.2.2.2.1 ++ rs))))))).trans (List.Perm.append_left _ (pb4 ([kc0 ad σ.2.2.2.2.2.2.2]) (nC (fun p => ad (p + 15)) t σ.2.1) (nC (fun p => ad (p + 29)) t σ.2.2.1) (sC aa (fun p => ad (p + 43)) t (σ.2.2.2.1, σ.2.2.2.2.1)) (xC (fun p => ad (p + 46)) t σ.2.2.2.2.2.1) (rC (fun p => ad (p + 48)) t σ.2.2.2.2.2.2.1 ++ rs))))).trans (pm_n1 (fun p => ad (p + 1)) t σ.1 (xC (fun p => ad (p + 46)) t σ.2.2.2.2.2.1 ++ ([kc0 ad σ.2.2.2.2.2.2.2] ++ (nC (fun p => ad (p + 15)) t σ.2.1 ++ (nC (fun p => ad (p + 29)) t σ.2.2.1 ++ (sC aa (fun p => ad (p + 43)) t (σ.2.2.2.1, σ.2.2.2.2.1) ++ (rC (fun p => ad (p + 48)) t σ.2.2.2.2.2.2.1 ++ rs))))))))).trans (List.Perm.append_left _ (pm_x ((ad (0 + 1), .inr (4, [.ref (ad (1 + 1)), .ref (ad (7 + 1)), .ref (ad (11 + 1)), .int (os_f σ.1.1 3), .int (os_f σ.1.1 4), .int (os_f σ.1.1 5), .int (os_f σ.1.1 6)])) :: (dC (fun p => ad (p + 8)) t σ.1.2.2.1 ++ bC (fun p => ad (p + 12)) t σ.1.2.2.2)) (xC (fun p => ad (p + 46)) t σ.2.2.2.2.2.1) ([kc0 ad σ.2.2.2.2.2.2.2] ++ (nC (fun p => ad (p + 15)) t σ.2.1 ++ (nC (fun p => ad (p + 29)) t σ.2.2.1 ++ (sC aa (fun p => ad (p + 43)) t (σ.2.2.2.1, σ.2.2.2.2.1) ++ (rC (fun p => ad (p + 48)) t σ.2.2.2.2.2.2.1 ++ rs)))))))) ((((((((pb1 ([kc0 ad σ.2.2.2.2.2.2.2]) (nC (fun p => ad (p + 1)) t (σ.1.1, (q.1, σ.1.2.2))) (nC (fun p => ad (p + 15)) t σ.2.1 ++ (nC (fun p => ad (p + 29)) t σ.2.2.1 ++ (sC aa (fun p => ad (p + 43)) t (σ.2.2.2.1, σ.2.2.2.2.1) ++ (xC (fun p => ad (p + 46)) t q.2 ++ (rC (fun p => ad (p + 48)) t σ.2.2.2.2.2.2.1 ++ rs))))))).trans (List.Perm.append_left _ (pb4 ([kc0 ad σ.2.2.2.2.2.2.2]) (nC (fun p => ad (p + 15)) t σ.2.1) (nC (fun p => ad (p + 29)) t σ.2.2.1) (sC aa (fun p => ad (p + 43)) t (σ.2.2.2.1, σ.2.2.2.2.1)) (xC (fun p => ad (p + 46)) t q.2) (rC (fun p => ad (p + 48)) t σ.2.2.2.2.2.2.1 ++ rs))))).trans (pm_n1 (fun p => ad (p + 1)) t (σ.1.1, (q.1, σ.1.2.2)) (xC (fun p => ad (p + 46)) t q.2 ++ ([kc0 ad σ.2.2.2.2.2.2.2] ++ (nC (fun p => ad (p + 15)) t σ.2.1 ++ (nC (fun p => ad (p + 29)) t σ.2.2.1 ++ (sC aa (fun p => ad (p + 43)) t (σ.2.2.2.1, σ.2.2.2.2.1) ++ (rC (fun p => ad (p + 48)) t σ.2.2.2.2.2.2.1 ++ rs))))))))).trans (List.Perm.append_left _ (pm_x ((ad (0 + 1), .inr (4, [.ref (ad (1 + 1)), .ref (ad (7 + 1)), .ref (ad (11 + 1)), .int (os_f σ.1.1 3), .int (os_f σ.1.1 4), .int (os_f σ.1.1 5), .int (os_f σ.1.1 6)])) :: (dC (fun p => ad (p + 8)) t σ.1.2.2.1 ++ bC (fun p => ad (p + 12)) t σ.1.2.2.2)) (xC (fun p => ad (p + 46)) t q.2) ([kc0 ad σ.2.2.2.2.2.2.2] ++ (nC (fun p => ad (p + 15)) t σ.2.1 ++ (nC (fun p => ad (p + 29)) t σ.2.2.1 ++ (sC aa (fun p => ad (p + 43)) t (σ.2.2.2.1, σ.2.2.2.2.1) ++ (rC (fun p => ad (p + 48)) t σ.2.2.2.2.2.2.1 ++ rs))))))))).symm hd kk rfl
set_option maxRecDepth 100000 in
set_option maxHeartbeats 4000000 in
theorem cX8_writeCommand_ {D : va_G} {t : Nat → ClassId} {aa : gx_AA} {l : Launch} {ad : Nat → Nat} {rs : va_W} {σ : CS} {p1 : Int32} {q : (Int32 × CS)} (hf : fX8_writeCommand σ p1 = some q) : gx_C D t (gx_E0 aa) l yX8_writeCommand cX8_writeCommand 2 (some .int) 19 467 [.ref (ad 0), .int p1] (kW aa ad t σ rs) (kW aa ad t q.2 rs) (some (.int q.1)) := by
  refine gx_intro_i (by decide) (Nat.le_of_ble_eq_true rfl) (fun J g hE0 => ?_)
  have hE : ∀ (v : Int32) (σ : CS) (pc : Nat) (L : List (Nat × Value)), some (v, σ) = some q → decode cX8_writeCommand pc = .ok (.ireturn, 1) → narrow .int (.int v) = .int v → J 0 0 (kW aa ad t σ rs) pc L [.int v] := fun v σ pc L h h1 h2 => by cases h; exact hE0 pc L h1 h2
  unfold fX8_writeCommand at hf
  show J 0 0 (kW aa ad t σ rs) 0 [(0, .ref (ad 0)), (1, .int p1)] []
  refine j_aload_n (pc := 0) g 0 dX8_writeCommand_0 rfl ?_
  refine j_iload_n (pc := 1) g 1 dX8_writeCommand_1 rfl ?_
  obtain ⟨r2, h_2, hf⟩ := gx_bs hf
  refine cK_X8_X8_requireOfficer_0 (σ := σ) (pc := 2) g (cX8_requireOfficer_ h_2) ⟨Nat.le_of_ble_eq_true rfl, Nat.le_of_ble_eq_true rfl⟩ ⟨Nat.zero_le _, Nat.zero_le _⟩ (Nat.le_of_ble_eq_true rfl) dX8_writeCommand_2 ?_
  refine j_aload_n (pc := 5) g 0 dX8_writeCommand_5 rfl ?_
  refine gK_X8_0_5 (σ := r2) (pc := 6) g dX8_writeCommand_6 ?_
  obtain ⟨r9, h_9, hf⟩ := gx_bs hf
  refine cK_X8_X6_clear_15 (σ := r2) (pc := 9) g (cX6_clear_ (ad := (fun p => ad (p + 46))) h_9) ⟨Nat.le_of_ble_eq_true rfl, Nat.le_of_ble_eq_true rfl⟩ ⟨Nat.zero_le _, Nat.zero_le _⟩ (Nat.le_of_ble_eq_true rfl) dX8_writeCommand_9 ?_
  refine j_aload_n (pc := 12) g 0 dX8_writeCommand_12 rfl ?_
  refine gK_X8_0_0 (σ := (r2.1, (r2.2.1, (r2.2.2.1, (r2.2.2.2.1, (r2.2.2.2.2.1, (r9, r2.2.2.2.2.2.2))))))) (pc := 13) g dX8_writeCommand_13 ?_
  refine gK_X8_1_0 (σ := (r2.1, (r2.2.1, (r2.2.2.1, (r2.2.2.2.1, (r2.2.2.2.2.1, (r9, r2.2.2.2.2.2.2))))))) (pc := 16) g dX8_writeCommand_16 ?_
  refine j_iload_n (pc := 19) g 1 dX8_writeCommand_19 rfl ?_
  refine j_iconst (v := 0) (pc := 20) g dX8_writeCommand_20 (by decide) ?_
  refine j_aload_n (pc := 21) g 0 dX8_writeCommand_21 rfl ?_
  refine gK_X8_0_5 (σ := (r2.1, (r2.2.1, (r2.2.2.1, (r2.2.2.2.1, (r2.2.2.2.2.1, (r9, r2.2.2.2.2.2.2))))))) (pc := 22) g dX8_writeCommand_22 ?_
  obtain ⟨r25, h_25, hf⟩ := gx_bs hf
  refine cK_X8_X3_write_2_15 (σ := (r2.1, (r2.2.1, (r2.2.2.1, (r2.2.2.2.1, (r2.2.2.2.2.1, (r9, r2.2.2.2.2.2.2))))))) (pc := 25) g (cX3_write_ (ad := (fun p => ad (p + 2))) (bd := (fun p => ad (p + 46))) 16 h_25) ⟨Nat.le_of_ble_eq_true rfl, Nat.le_of_ble_eq_true rfl⟩ ⟨Nat.zero_le _, Nat.zero_le _⟩ (Nat.le_of_ble_eq_true rfl) dX8_writeCommand_25 ?_
  refine j_aload_n (pc := 28) g 0 dX8_writeCommand_28 rfl ?_
  refine gK_X8_0_5 (σ := ((r2.1.1, (r25.1, r2.1.2.2)), (r2.2.1, (r2.2.2.1, (r2.2.2.2.1, (r2.2.2.2.2.1, (r25.2, r2.2.2.2.2.2.2))))))) (pc := 29) g dX8_writeCommand_29 ?_
  refine gK_X8_15_1 (σ := ((r2.1.1, (r25.1, r2.1.2.2)), (r2.2.1, (r2.2.2.1, (r2.2.2.2.1, (r2.2.2.2.2.1, (r25.2, r2.2.2.2.2.2.2))))))) (pc := 32) g dX8_writeCommand_32 ?_
  exact hE _ _ _ _ hf dX8_writeCommand_35 rfl
theorem cK_X8_X8_carryOut_0 {D : va_G} {t : Nat → ClassId} {aa : gx_AA} {l : Launch} {R : Room} {cc : ByteArray} {nL : Nat} {J : gx_J} {ad : Nat → Nat} {rs : va_W} {k n pc : Nat} {L : List (Nat × Value)} {rest : List Value} (g : gx_G D t (gx_E0 aa) l R cc RX8 nL J) {σ : CS} {q : (Int32 × CS)} {fr lo : Nat} (hC : gx_C D t (gx_E0 aa) l yX8_carryOut cX8_carryOut 1 (some .int) fr lo [.ref (ad 0)] (kW aa ad t σ rs) (kW aa ad t q.2 rs) (some (.int q.1))) (hR : fr + 1 ≤ R.frames ∧ 8 + (1 + 11) + lo ≤ R.locals) (hkn : k ≤ R.cells ∧ n ≤ R.slots) (hcat : (rest.map fun v => v.category).sum ≤ 8) (hd : decode cc pc = .ok (.invokevirtual 325, 3)) (kk : J k n (kW aa ad t q.2 rs) (pc + 3) L (.int q.1 :: rest)) : J k n (kW aa ad t σ rs) pc L (.ref (ad 0) :: rest) := j_callVi (na := 0) (As := []) (q0 := 0) (ci := 9) g hC q_i_X8_carryOut q_s_X8_carryOut rfl rfl rfl q_c_X8_carryOut q_l_X8_325 q_n_X8 (by decide +kernel) rfl hR hkn hcat (.refl _) (.refl _) hd kk rfl
set_option maxRecDepth 100000 in
set_option maxHeartbeats 4000000 in
theorem tX8_carryOutAll_9 {D : va_G} {t : Nat → ClassId} {aa : gx_AA} {l : Launch} {J : gx_J} {ad : Nat → Nat} {rs : va_W} {q : (Int32 × CS)} (g : gx_G D t (gx_E0 aa) l ({ frames := 19, cells := 0, slots := 0, locals := 450 }) cX8_carryOutAll RX8 3 J) (hE : ∀ (v : Int32) (σ : CS) (pc : Nat) (L : List (Nat × Value)), some (v, σ) = some q → decode cX8_carryOutAll pc = .ok (.ireturn, 1) → narrow .int (.int v) = .int v → J 0 0 (kW aa ad t σ rs) pc L [.int v])  : ∀ (n : Nat) (σ : CS) (v1 : Int32) (v2 : Int32), fX8_carryOutAll_9 n σ v1 v2 = some q → J 0 0 (kW aa ad t σ rs) 9 [(0, .ref (ad 0)), (1, .int v1), (2, .int v2)] [] := by
  intro n
  induction n with
  | zero => intro σ v1 v2 hf; cases hf
  | succ n ih =>
    intro σ v1 v2 hf
    replace hf := (fX8_carryOutAll_9_s n σ v1 v2).symm.trans hf
    refine j_iload_n (pc := 9) g 2 dX8_carryOutAll_9 rfl ?_
    refine j_iload_n (pc := 10) g 1 dX8_carryOutAll_10 rfl ?_
    refine j_icmp_ge (tgt := 39) (pc := 11) g dX8_carryOutAll_11 (by decide) (fun c_11 => ?_) (fun c_11 => ?_)
    · have hf := gx_it c_11 hf
      refine j_iconst (v := -1) (pc := 39) g dX8_carryOutAll_39 (by decide) ?_
      exact hE _ _ _ _ hf dX8_carryOutAll_40 rfl
    · have hf := gx_if c_11 hf
      refine j_aload_n (pc := 14) g 0 dX8_carryOutAll_14 rfl ?_
      refine gK_X8_0_4 (σ := σ) (pc := 15) g dX8_carryOutAll_15 ?_
      obtain ⟨r18, h_18, hf⟩ := gx_bs hf
      refine cK_X8_X5_readNext_13 (σ := σ) (pc := 18) g (cX5_readNext_ (ad := (fun p => ad (p + 43))) h_18) ⟨Nat.le_of_ble_eq_true rfl, Nat.le_of_ble_eq_true rfl⟩ ⟨Nat.zero_le _, Nat.zero_le _⟩ (Nat.le_of_ble_eq_true rfl) dX8_carryOutAll_18 ?_
      refine j_if_eq (tgt := 31) (pc := 21) g dX8_carryOutAll_21 (by decide) (fun c_21 => ?_) (fun c_21 => ?_)
      · have hf := gx_it c_21 hf
        refine j_iload_n (pc := 31) g 2 dX8_carryOutAll_31 rfl ?_
        exact hE _ _ _ _ hf dX8_carryOutAll_32 rfl
      · have hf := gx_if c_21 hf
        refine j_aload_n (pc := 24) g 0 dX8_carryOutAll_24 rfl ?_
        obtain ⟨r25, h_25, hf⟩ := gx_bs hf
        refine cK_X8_X8_carryOut_0 (σ := (σ.1, (σ.2.1, (σ.2.2.1, (r18.2.1, (r18.2.2, σ.2.2.2.2.2)))))) (pc := 25) g (cX8_carryOut_ h_25) ⟨Nat.le_of_ble_eq_true rfl, Nat.le_of_ble_eq_true rfl⟩ ⟨Nat.zero_le _, Nat.zero_le _⟩ (Nat.le_of_ble_eq_true rfl) dX8_carryOutAll_25 ?_
        refine j_if_ge (tgt := 33) (pc := 28) g dX8_carryOutAll_28 (by decide) (fun c_28 => ?_) (fun c_28 => ?_)
        · have hf := gx_it c_28 hf
          refine j_iinc (v := v2 + 1) (L' := [(2, .int (v2 + 1)), (0, .ref (ad 0)), (1, .int v1)]) (pc := 33) g 2 dX8_carryOutAll_33 rfl rfl (Nat.le_of_ble_eq_true rfl) rfl ?_
          refine j_goto (tgt := 9) (pc := 36) g dX8_carryOutAll_36 (by decide) ?_
          refine j_sub (pc := 9) g [1, 2, 0] rfl ?_
          exact ih r25.2 v1 (v2 + 1) hf
        · have hf := gx_if c_28 hf
          refine j_iload_n (pc := 31) g 2 dX8_carryOutAll_31 rfl ?_
          exact hE _ _ _ _ hf dX8_carryOutAll_32 rfl
set_option maxRecDepth 100000 in
set_option maxHeartbeats 4000000 in
theorem cX8_carryOutAll_ {D : va_G} {t : Nat → ClassId} {aa : gx_AA} {l : Launch} {ad : Nat → Nat} {rs : va_W} {σ : CS} {p1 : Int32} {q : (Int32 × CS)} (hf : fX8_carryOutAll σ p1 = some q) : gx_C D t (gx_E0 aa) l yX8_carryOutAll cX8_carryOutAll 3 (some .int) 19 450 [.ref (ad 0), .int p1] (kW aa ad t σ rs) (kW aa ad t q.2 rs) (some (.int q.1)) := by
  refine gx_intro_i (by decide) (Nat.le_of_ble_eq_true rfl) (fun J g hE0 => ?_)
  have hE : ∀ (v : Int32) (σ : CS) (pc : Nat) (L : List (Nat × Value)), some (v, σ) = some q → decode cX8_carryOutAll pc = .ok (.ireturn, 1) → narrow .int (.int v) = .int v → J 0 0 (kW aa ad t σ rs) pc L [.int v] := fun v σ pc L h h1 h2 => by cases h; exact hE0 pc L h1 h2
  unfold fX8_carryOutAll at hf
  show J 0 0 (kW aa ad t σ rs) 0 [(0, .ref (ad 0)), (1, .int p1)] []
  refine j_aload_n (pc := 0) g 0 dX8_carryOutAll_0 rfl ?_
  refine gK_X8_0_4 (σ := σ) (pc := 1) g dX8_carryOutAll_1 ?_
  obtain ⟨r4, h_4, hf⟩ := gx_bs hf
  refine cK_X8_X5_rewind_13 (σ := σ) (pc := 4) g (cX5_rewind_ (ad := (fun p => ad (p + 43))) h_4) ⟨Nat.le_of_ble_eq_true rfl, Nat.le_of_ble_eq_true rfl⟩ ⟨Nat.zero_le _, Nat.zero_le _⟩ (Nat.le_of_ble_eq_true rfl) dX8_carryOutAll_4 ?_
  refine j_iconst (v := 0) (pc := 7) g dX8_carryOutAll_7 (by decide) ?_
  refine j_istore_n (L' := [(2, .int (0 : Int32)), (0, .ref (ad 0)), (1, .int p1)]) (pc := 8) g dX8_carryOutAll_8 rfl (Nat.le_of_ble_eq_true rfl) rfl ?_
  refine j_sub (pc := 9) g [1, 2, 0] rfl ?_
  exact tX8_carryOutAll_9 g hE 2000 (σ.1, (σ.2.1, (σ.2.2.1, (r4.1, (r4.2, σ.2.2.2.2.2))))) p1 (0 : Int32) hf
theorem cK_X8_X8_carryOutAll_0 {D : va_G} {t : Nat → ClassId} {aa : gx_AA} {l : Launch} {R : Room} {cc : ByteArray} {nL : Nat} {J : gx_J} {ad : Nat → Nat} {rs : va_W} {k n pc : Nat} {L : List (Nat × Value)} {rest : List Value} (g : gx_G D t (gx_E0 aa) l R cc RX8 nL J) {σ : CS} {x0 : Int32} {q : (Int32 × CS)} {fr lo : Nat} (hC : gx_C D t (gx_E0 aa) l yX8_carryOutAll cX8_carryOutAll 3 (some .int) fr lo [.ref (ad 0), .int x0] (kW aa ad t σ rs) (kW aa ad t q.2 rs) (some (.int q.1))) (hR : fr + 1 ≤ R.frames ∧ 8 + (3 + 11) + lo ≤ R.locals) (hkn : k ≤ R.cells ∧ n ≤ R.slots) (hcat : (rest.map fun v => v.category).sum ≤ 8) (hd : decode cc pc = .ok (.invokevirtual 266, 3)) (kk : J k n (kW aa ad t q.2 rs) (pc + 3) L (.int q.1 :: rest)) : J k n (kW aa ad t σ rs) pc L (.int x0 :: .ref (ad 0) :: rest) := j_callVi (na := 1) (As := [.int x0]) (q0 := 0) (ci := 9) g hC q_i_X8_carryOutAll q_s_X8_carryOutAll rfl rfl rfl q_c_X8_carryOutAll q_l_X8_266 q_n_X8 (by decide +kernel) rfl hR hkn hcat (.refl _) (.refl _) hd kk rfl
theorem cK_X8_X6_clear_14 {D : va_G} {t : Nat → ClassId} {aa : gx_AA} {l : Launch} {R : Room} {cc : ByteArray} {nL : Nat} {J : gx_J} {ad : Nat → Nat} {rs : va_W} {k n pc : Nat} {L : List (Nat × Value)} {rest : List Value} (g : gx_G D t (gx_E0 aa) l R cc RX8 nL J) {σ : CS} {q : OS} {fr lo : Nat} (hC : gx_C D t (gx_E0 aa) l yX6_clear cX6_clear 1 none fr lo [.ref (ad 44)] (xC (fun p => ad (p + 44)) t σ.2.2.2.2.1 ++ ([(ad (0 + 43), .inr (7, [.ref (ad (1 + 43)), .int (os_f σ.2.2.2.1 1), gx_ve aa (os_f σ.2.2.2.1 2), .int (os_f σ.2.2.2.1 3), .int (os_f σ.2.2.2.1 4), .int (os_f σ.2.2.2.1 5)]))] ++ ([kc0 ad σ.2.2.2.2.2.2.2] ++ (nC (fun p => ad (p + 1)) t σ.1 ++ (nC (fun p => ad (p + 15)) t σ.2.1 ++ (nC (fun p => ad (p + 29)) t σ.2.2.1 ++ (xC (fun p => ad (p + 46)) t σ.2.2.2.2.2.1 ++ (rC (fun p => ad (p + 48)) t σ.2.2.2.2.2.2.1 ++ rs)))))))) (xC (fun p => ad (p + 44)) t q ++ ([(ad (0 + 43), .inr (7, [.ref (ad (1 + 43)), .int (os_f σ.2.2.2.1 1), gx_ve aa (os_f σ.2.2.2.1 2), .int (os_f σ.2.2.2.1 3), .int (os_f σ.2.2.2.1 4), .int (os_f σ.2.2.2.1 5)]))] ++ ([kc0 ad σ.2.2.2.2.2.2.2] ++ (nC (fun p => ad (p + 1)) t σ.1 ++ (nC (fun p => ad (p + 15)) t σ.2.1 ++ (nC (fun p => ad (p + 29)) t σ.2.2.1 ++ (xC (fun p => ad (p + 46)) t σ.2.2.2.2.2.1 ++ (rC (fun p => ad (p + 48)) t σ.2.2.2.2.2.2.1 ++ rs)))))))) none) (hR : fr + 1 ≤ R.frames ∧ 8 + (1 + 11) + lo ≤ R.locals) (hkn : k ≤ R.cells ∧ n ≤ R.slots) (hcat : (rest.map fun v => v.category).sum ≤ 8) (hd : decode cc pc = .ok (.invokevirtual 261, 3)) (kk : J k n (kW aa ad t (σ.1, (σ.2.1, (σ.2.2.1, (σ.2.2.2.1, (q, σ.2.2.2.2.2))))) rs) (pc + 3) L (rest)) : J k n (kW aa ad t σ rs) pc L (.ref (ad 44) :: rest) := j_callVv (na := 0) (As := []) (q0 := 44) (ci := 8) g hC q_i_X6_clear q_s_X6_clear rfl rfl rfl q_c_X6_clear q_l_X8_261 q_n_X6 (by decide +kernel) rfl hR hkn hcat (((pb4 ([kc0 ad σ.2.2.2.2.2.2.2]) (nC (fun p => ad (p + 1)) t σ.1) (nC (fun p => ad (p + 15)) t σ.2.1) (nC (fun p => ad (p + 29)) t σ.2.2.1) (sC aa (fun p => ad (p + 43)) t (σ.2.2.2.1, σ.2.2.2.2.1)) (xC (fun p => ad (p + 46)) t σ.2.2.2.2.2.1 ++ (rC (fun p => ad (p + 48)) t σ.2.2.2.2.2.2.1 ++ rs)))).trans (pm_x [(ad (0 + 43), .inr (7, [.ref (ad (1 + 43)), .int (os_f σ.2.2.2.1 1), gx_ve aa (os_f σ.2.2.2.1 2), .int (os_f σ.2.2.2.1 3), .int (os_f σ.2.2.2.1 4), .int (os_f σ.2.2.2.1 5)]))] (xC (fun p => ad (p + 44)) t σ.2.2.2.2.1) ([kc0 ad σ.2.2.2.2.2.2.2] ++ (nC (fun p => ad (p + 1)) t σ.1 ++ (nC (fun p => ad (p + 15)) t σ.2.1 ++ (nC (fun p => ad (p + 29)) t σ.2.2.1 ++ (xC (fun p => ad (p + 46)) t σ.2.2.2.2.2.1 ++ (rC (fun p => ad (p + 48)) t σ.2.2.2.2.2.2.1 ++ rs)))))))) ((((pb4 ([kc0 ad σ.2.2.2.2.2.2.2]) (nC (fun p => ad (p + 1)) t σ.1) (nC (fun p => ad (p + 15)) t σ.2.1) (nC (fun p => ad (p + 29)) t σ.2.2.1) (sC aa (fun p => ad (p + 43)) t (σ.2.2.2.1, q)) (xC (fun p => ad (p + 46)) t σ.2.2.2.2.2.1 ++ (rC (fun p => ad (p + 48)) t σ.2.2.2.2.2.2.1 ++ rs)))).trans (pm_x [(ad (0 + 43), .inr (7, [.ref (ad (1 + 43)), .int (os_f σ.2.2.2.1 1), gx_ve aa (os_f σ.2.2.2.1 2), .int (os_f σ.2.2.2.1 3), .int (os_f σ.2.2.2.1 4), .int (os_f σ.2.2.2.1 5)]))] (xC (fun p => ad (p + 44)) t q) ([kc0 ad σ.2.2.2.2.2.2.2] ++ (nC (fun p => ad (p + 1)) t σ.1 ++ (nC (fun p => ad (p + 15)) t σ.2.1 ++ (nC (fun p => ad (p + 29)) t σ.2.2.1 ++ (xC (fun p => ad (p + 46)) t σ.2.2.2.2.2.1 ++ (rC (fun p => ad (p + 48)) t σ.2.2.2.2.2.2.1 ++ rs))))))))).symm hd kk rfl
theorem cK_X8_X2_copyFrom_1_5 {D : va_G} {t : Nat → ClassId} {aa : gx_AA} {l : Launch} {R : Room} {cc : ByteArray} {nL : Nat} {J : gx_J} {ad : Nat → Nat} {rs : va_W} {k n pc : Nat} {L : List (Nat × Value)} {rest : List Value} (g : gx_G D t (gx_E0 aa) l R cc RX8 nL J) {σ : CS} {q : (NS × NS)} {fr lo : Nat} (hC : gx_C D t (gx_E0 aa) l yX2_copyFrom cX2_copyFrom 2 none fr lo [.ref (ad 1), .ref (ad 15)] (nC (fun p => ad (p + 1)) t σ.1 ++ (nC (fun p => ad (p + 15)) t σ.2.1 ++ ([kc0 ad σ.2.2.2.2.2.2.2] ++ (nC (fun p => ad (p + 29)) t σ.2.2.1 ++ (sC aa (fun p => ad (p + 43)) t (σ.2.2.2.1, σ.2.2.2.2.1) ++ (xC (fun p => ad (p + 46)) t σ.2.2.2.2.2.1 ++ (rC (fun p => ad (p + 48)) t σ.2.2.2.2.2.2.1 ++ rs))))))) (nC (fun p => ad (p + 1)) t q.1 ++ (nC (fun p => ad (p + 15)) t q.2 ++ ([kc0 ad σ.2.2.2.2.2.2.2] ++ (nC (fun p => ad (p + 29)) t σ.2.2.1 ++ (sC aa (fun p => ad (p + 43)) t (σ.2.2.2.1, σ.2.2.2.2.1) ++ (xC (fun p => ad (p + 46)) t σ.2.2.2.2.2.1 ++ (rC (fun p => ad (p + 48)) t σ.2.2.2.2.2.2.1 ++ rs))))))) none) (hR : fr + 1 ≤ R.frames ∧ 8 + (2 + 11) + lo ≤ R.locals) (hkn : k ≤ R.cells ∧ n ≤ R.slots) (hcat : (rest.map fun v => v.category).sum ≤ 8) (hd : decode cc pc = .ok (.invokevirtual 54, 3)) (kk : J k n (kW aa ad t (q.1, (q.2, σ.2.2)) rs) (pc + 3) L (rest)) : J k n (kW aa ad t σ rs) pc L (.ref (ad 15) :: .ref (ad 1) :: rest) := j_callVv (na := 1) (As := [.ref (ad 15)]) (q0 := 1) (ci := 4) g hC q_i_X2_copyFrom q_s_X2_copyFrom rfl rfl rfl q_c_X2_copyFrom q_l_X8_54 q_n_X2 (by decide +kernel) rfl hR hkn hcat (((pb1 ([kc0 ad σ.2.2.2.2.2.2.2]) (nC (fun p => ad (p + 1)) t σ.1) (nC (fun p => ad (p + 15)) t σ.2.1 ++ (nC (fun p => ad (p + 29)) t σ.2.2.1 ++ (sC aa (fun p => ad (p + 43)) t (σ.2.2.2.1, σ.2.2.2.2.1) ++ (xC (fun p => ad (p + 46)) t σ.2.2.2.2.2.1 ++ (rC (fun p => ad (p + 48)) t σ.2.2.2.2.2.2.1 ++ rs))))))).trans (List.Perm.append_left _ (pb1 ([kc0 ad σ.2.2.2.2.2.2.2]) (nC (fun p => ad (p + 15)) t σ.2.1) (nC (fun p => ad (p + 29)) t σ.2.2.1 ++ (sC aa (fun p => ad (p + 43)) t (σ.2.2.2.1, σ.2.2.2.2.1) ++ (xC (fun p => ad (p + 46)) t σ.2.2.2.2.2.1 ++ (rC (fun p => ad (p + 48)) t σ.2.2.2.2.2.2.1 ++ rs))))))) ((((pb1 ([kc0 ad σ.2.2.2.2.2.2.2]) (nC (fun p => ad (p + 1)) t q.1) (nC (fun p => ad (p + 15)) t q.2 ++ (nC (fun p => ad (p + 29)) t σ.2.2.1 ++ (sC aa (fun p => ad (p + 43)) t (σ.2.2.2.1, σ.2.2.2.2.1) ++ (xC (fun p => ad (p + 46)) t σ.2.2.2.2.2.1 ++ (rC (fun p => ad (p + 48)) t σ.2.2.2.2.2.2.1 ++ rs))))))).trans (List.Perm.append_left _ (pb1 ([kc0 ad σ.2.2.2.2.2.2.2]) (nC (fun p => ad (p + 15)) t q.2) (nC (fun p => ad (p + 29)) t σ.2.2.1 ++ (sC aa (fun p => ad (p + 43)) t (σ.2.2.2.1, σ.2.2.2.2.1) ++ (xC (fun p => ad (p + 46)) t σ.2.2.2.2.2.1 ++ (rC (fun p => ad (p + 48)) t σ.2.2.2.2.2.2.1 ++ rs)))))))).symm hd kk rfl
theorem pK_X8_0_8 {D : va_G} {t : Nat → ClassId} {aa : gx_AA} {l : Launch} {R : Room} {cc : ByteArray} {nL : Nat} {J : gx_J} {ad : Nat → Nat} {rs : va_W} {k n pc : Nat} {L : List (Nat × Value)} {st : List Value} (g : gx_G D t (gx_E0 aa) l R cc RX8 nL J) {σ : CS} {v : Int32} (hd : decode cc pc = .ok (.putfield 51, 3)) (kk : J k n (kW aa ad t (σ.1, (σ.2.1, (σ.2.2.1, (σ.2.2.2.1, (σ.2.2.2.2.1, (σ.2.2.2.2.2.1, (σ.2.2.2.2.2.2.1, os_sf σ.2.2.2.2.2.2.2 8 v))))))) rs) (pc + 3) L st) : J k n (kW aa ad t σ rs) pc L (.int v :: .ref (ad 0) :: st) := j_put (w' := kW aa ad t (σ.1, (σ.2.1, (σ.2.2.1, (σ.2.2.2.1, (σ.2.2.2.2.1, (σ.2.2.2.2.2.1, (σ.2.2.2.2.2.2.1, os_sf σ.2.2.2.2.2.2.2 8 v))))))) rs) g in_X8 0 rfl rfl 8 (by decide) q_f_X8_51 rfl tyX8 tyX8_ok nmX8 rfl (ty := .int) (by decide +kernel) rfl rfl (Nat.le_of_ble_eq_true rfl) rfl hd kk
theorem gK_X8_13_1 {D : va_G} {t : Nat → ClassId} {aa : gx_AA} {l : Launch} {R : Room} {cc : ByteArray} {nL : Nat} {J : gx_J} {ad : Nat → Nat} {rs : va_W} {k n pc : Nat} {L : List (Nat × Value)} {st : List Value} (g : gx_G D t (gx_E0 aa) l R cc RX8 nL J) {σ : CS} (hd : decode cc pc = .ok (.getfield 258, 3)) (kk : J k n (kW aa ad t σ rs) (pc + 3) L (.int (os_f σ.2.2.2.1 1) :: st)) : J k n (kW aa ad t σ rs) pc L (.ref (ad 43) :: st) := j_get g in_X5 43 rfl rfl 1 (by decide) q_f_X8_258 rfl rfl hd kk
theorem pK_X8_0_7 {D : va_G} {t : Nat → ClassId} {aa : gx_AA} {l : Launch} {R : Room} {cc : ByteArray} {nL : Nat} {J : gx_J} {ad : Nat → Nat} {rs : va_W} {k n pc : Nat} {L : List (Nat × Value)} {st : List Value} (g : gx_G D t (gx_E0 aa) l R cc RX8 nL J) {σ : CS} {v : Int32} (hd : decode cc pc = .ok (.putfield 47, 3)) (kk : J k n (kW aa ad t (σ.1, (σ.2.1, (σ.2.2.1, (σ.2.2.2.1, (σ.2.2.2.2.1, (σ.2.2.2.2.2.1, (σ.2.2.2.2.2.2.1, os_sf σ.2.2.2.2.2.2.2 7 v))))))) rs) (pc + 3) L st) : J k n (kW aa ad t σ rs) pc L (.int v :: .ref (ad 0) :: st) := j_put (w' := kW aa ad t (σ.1, (σ.2.1, (σ.2.2.1, (σ.2.2.2.1, (σ.2.2.2.2.1, (σ.2.2.2.2.2.1, (σ.2.2.2.2.2.2.1, os_sf σ.2.2.2.2.2.2.2 7 v))))))) rs) g in_X8 0 rfl rfl 7 (by decide) q_f_X8_47 rfl tyX8 tyX8_ok nmX8 rfl (ty := .int) (by decide +kernel) rfl rfl (Nat.le_of_ble_eq_true rfl) rfl hd kk
set_option maxRecDepth 100000 in
set_option maxHeartbeats 4000000 in
theorem cX8_runCommands_ {D : va_G} {t : Nat → ClassId} {aa : gx_AA} {l : Launch} {ad : Nat → Nat} {rs : va_W} {σ : CS} {q : (Int32 × CS)} (hf : fX8_runCommands σ = some q) : gx_C D t (gx_E0 aa) l yX8_runCommands cX8_runCommands 3 (some .int) 20 472 [.ref (ad 0)] (kW aa ad t σ rs) (kW aa ad t q.2 rs) (some (.int q.1)) := by
  refine gx_intro_i (by decide) (Nat.le_of_ble_eq_true rfl) (fun J g hE0 => ?_)
  have hE : ∀ (v : Int32) (σ : CS) (pc : Nat) (L : List (Nat × Value)), some (v, σ) = some q → decode cX8_runCommands pc = .ok (.ireturn, 1) → narrow .int (.int v) = .int v → J 0 0 (kW aa ad t σ rs) pc L [.int v] := fun v σ pc L h h1 h2 => by cases h; exact hE0 pc L h1 h2
  unfold fX8_runCommands at hf
  show J 0 0 (kW aa ad t σ rs) 0 [(0, .ref (ad 0))] []
  refine j_aload_n (pc := 0) g 0 dX8_runCommands_0 rfl ?_
  refine gK_X8_0_1 (σ := σ) (pc := 1) g dX8_runCommands_1 ?_
  refine j_aload_n (pc := 4) g 0 dX8_runCommands_4 rfl ?_
  refine gK_X8_0_0 (σ := σ) (pc := 5) g dX8_runCommands_5 ?_
  obtain ⟨r8, h_8, hf⟩ := gx_bs hf
  refine cK_X8_X2_copyFrom_5_1 (σ := σ) (pc := 8) g (cX2_copyFrom_ (ad := (fun p => ad (p + 15))) (bd := (fun p => ad (p + 1))) h_8) ⟨Nat.le_of_ble_eq_true rfl, Nat.le_of_ble_eq_true rfl⟩ ⟨Nat.zero_le _, Nat.zero_le _⟩ (Nat.le_of_ble_eq_true rfl) dX8_runCommands_8 ?_
  refine j_aload_n (pc := 11) g 0 dX8_runCommands_11 rfl ?_
  refine gK_X8_0_4 (σ := (r8.2, (r8.1, σ.2.2))) (pc := 12) g dX8_runCommands_12 ?_
  obtain ⟨r15, h_15, hf⟩ := gx_bs hf
  refine cK_X8_X5_readAll_13 (σ := (r8.2, (r8.1, σ.2.2))) (pc := 15) g (cX5_readAll_ (ad := (fun p => ad (p + 43))) h_15) ⟨Nat.le_of_ble_eq_true rfl, Nat.le_of_ble_eq_true rfl⟩ ⟨Nat.zero_le _, Nat.zero_le _⟩ (Nat.le_of_ble_eq_true rfl) dX8_runCommands_15 ?_
  refine j_istore_n (L' := [(1, .int r15.1), (0, .ref (ad 0))]) (pc := 18) g dX8_runCommands_18 rfl (Nat.le_of_ble_eq_true rfl) rfl ?_
  refine j_iload_n (pc := 19) g 0 dX8_runCommands_19 rfl ?_
  refine j_iconst (v := -1) (pc := 20) g dX8_runCommands_20 (by decide) ?_
  refine j_icmp_ne (tgt := 56) (pc := 21) g dX8_runCommands_21 (by decide) (fun c_21 => ?_) (fun c_21 => ?_)
  · have hf := gx_if c_21 hf
    refine j_aload_n (pc := 56) g 1 dX8_runCommands_56 rfl ?_
    refine j_iload_n (pc := 57) g 0 dX8_runCommands_57 rfl ?_
    obtain ⟨r58, h_58, hf⟩ := gx_bs hf
    refine cK_X8_X8_carryOutAll_0 (σ := (r8.2, (r8.1, (σ.2.2.1, (r15.2.1, (r15.2.2, σ.2.2.2.2.2)))))) (pc := 58) g (cX8_carryOutAll_ h_58) ⟨Nat.le_of_ble_eq_true rfl, Nat.le_of_ble_eq_true rfl⟩ ⟨Nat.zero_le _, Nat.zero_le _⟩ (Nat.le_of_ble_eq_true rfl) dX8_runCommands_58 ?_
    refine j_istore_n (L' := [(2, .int r58.1), (1, .int r15.1), (0, .ref (ad 0))]) (pc := 61) g dX8_runCommands_61 rfl (Nat.le_of_ble_eq_true rfl) rfl ?_
    refine j_aload_n (pc := 62) g 2 dX8_runCommands_62 rfl ?_
    refine gK_X8_0_4 (σ := r58.2) (pc := 63) g dX8_runCommands_63 ?_
    refine gK_X8_13_0 (σ := r58.2) (pc := 66) g dX8_runCommands_66 ?_
    obtain ⟨r69, h_69, hf⟩ := gx_bs hf
    refine cK_X8_X6_clear_14 (σ := r58.2) (pc := 69) g (cX6_clear_ (ad := (fun p => ad (p + 44))) h_69) ⟨Nat.le_of_ble_eq_true rfl, Nat.le_of_ble_eq_true rfl⟩ ⟨Nat.zero_le _, Nat.zero_le _⟩ (Nat.le_of_ble_eq_true rfl) dX8_runCommands_69 ?_
    refine j_iload_n (pc := 72) g 0 dX8_runCommands_72 rfl ?_
    refine j_iconst (v := -1) (pc := 73) g dX8_runCommands_73 (by decide) ?_
    refine j_icmp_eq (tgt := 104) (pc := 74) g dX8_runCommands_74 (by decide) (fun c_74 => ?_) (fun c_74 => ?_)
    · have hf := gx_it c_74 hf
      refine j_aload_n (pc := 104) g 2 dX8_runCommands_104 rfl ?_
      refine j_iload_n (pc := 105) g 1 dX8_runCommands_105 rfl ?_
      obtain ⟨r106, h_106, hf⟩ := gx_bs hf
      refine cK_X8_X8_record_0 (σ := (r58.2.1, (r58.2.2.1, (r58.2.2.2.1, (r58.2.2.2.2.1, (r69, r58.2.2.2.2.2.2)))))) (pc := 106) g (cX8_record_ h_106) ⟨Nat.le_of_ble_eq_true rfl, Nat.le_of_ble_eq_true rfl⟩ ⟨Nat.zero_le _, Nat.zero_le _⟩ (Nat.le_of_ble_eq_true rfl) dX8_runCommands_106 ?_
      exact hE _ _ _ _ hf dX8_runCommands_109 rfl
    · have hf := gx_if c_74 hf
      refine j_aload_n (pc := 77) g 2 dX8_runCommands_77 rfl ?_
      refine gK_X8_0_0 (σ := (r58.2.1, (r58.2.2.1, (r58.2.2.2.1, (r58.2.2.2.2.1, (r69, r58.2.2.2.2.2.2)))))) (pc := 78) g dX8_runCommands_78 ?_
      refine j_aload_n (pc := 81) g 2 dX8_runCommands_81 rfl ?_
      refine gK_X8_0_1 (σ := (r58.2.1, (r58.2.2.1, (r58.2.2.2.1, (r58.2.2.2.2.1, (r69, r58.2.2.2.2.2.2)))))) (pc := 82) g dX8_runCommands_82 ?_
      obtain ⟨r85, h_85, hf⟩ := gx_bs hf
      refine cK_X8_X2_copyFrom_1_5 (σ := (r58.2.1, (r58.2.2.1, (r58.2.2.2.1, (r58.2.2.2.2.1, (r69, r58.2.2.2.2.2.2)))))) (pc := 85) g (cX2_copyFrom_ (ad := (fun p => ad (p + 1))) (bd := (fun p => ad (p + 15))) h_85) ⟨Nat.le_of_ble_eq_true rfl, Nat.le_of_ble_eq_true rfl⟩ ⟨Nat.zero_le _, Nat.zero_le _⟩ (Nat.le_of_ble_eq_true rfl) dX8_runCommands_85 ?_
      refine j_aload_n (pc := 88) g 2 dX8_runCommands_88 rfl ?_
      refine j_iload_n (pc := 89) g 0 dX8_runCommands_89 rfl ?_
      refine pK_X8_0_8 (σ := (r85.1, (r85.2, (r58.2.2.2.1, (r58.2.2.2.2.1, (r69, r58.2.2.2.2.2.2)))))) (pc := 90) g dX8_runCommands_90 ?_
      cases hf
  · have hf := gx_it c_21 hf
    refine j_aload_n (pc := 24) g 1 dX8_runCommands_24 rfl ?_
    refine j_aload_n (pc := 25) g 1 dX8_runCommands_25 rfl ?_
    refine gK_X8_0_4 (σ := (r8.2, (r8.1, (σ.2.2.1, (r15.2.1, (r15.2.2, σ.2.2.2.2.2)))))) (pc := 26) g dX8_runCommands_26 ?_
    refine gK_X8_13_1 (σ := (r8.2, (r8.1, (σ.2.2.1, (r15.2.1, (r15.2.2, σ.2.2.2.2.2)))))) (pc := 29) g dX8_runCommands_29 ?_
    refine pK_X8_0_7 (σ := (r8.2, (r8.1, (σ.2.2.1, (r15.2.1, (r15.2.2, σ.2.2.2.2.2)))))) (pc := 32) g dX8_runCommands_32 ?_
    refine j_aload_n (pc := 35) g 1 dX8_runCommands_35 rfl ?_
    refine gK_X8_0_4 (σ := (r8.2, (r8.1, (σ.2.2.1, (r15.2.1, (r15.2.2, (σ.2.2.2.2.2.1, (σ.2.2.2.2.2.2.1, os_sf σ.2.2.2.2.2.2.2 7 (os_f r15.2.1 1))))))))) (pc := 36) g dX8_runCommands_36 ?_
    refine gK_X8_13_0 (σ := (r8.2, (r8.1, (σ.2.2.1, (r15.2.1, (r15.2.2, (σ.2.2.2.2.2.1, (σ.2.2.2.2.2.2.1, os_sf σ.2.2.2.2.2.2.2 7 (os_f r15.2.1 1))))))))) (pc := 39) g dX8_runCommands_39 ?_
    obtain ⟨r42, h_42, hf⟩ := gx_bs hf
    refine cK_X8_X6_clear_14 (σ := (r8.2, (r8.1, (σ.2.2.1, (r15.2.1, (r15.2.2, (σ.2.2.2.2.2.1, (σ.2.2.2.2.2.2.1, os_sf σ.2.2.2.2.2.2.2 7 (os_f r15.2.1 1))))))))) (pc := 42) g (cX6_clear_ (ad := (fun p => ad (p + 44))) h_42) ⟨Nat.le_of_ble_eq_true rfl, Nat.le_of_ble_eq_true rfl⟩ ⟨Nat.zero_le _, Nat.zero_le _⟩ (Nat.le_of_ble_eq_true rfl) dX8_runCommands_42 ?_
    cases hf
