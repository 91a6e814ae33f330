theorem in_X1 : ∀ w ∈ u_ws RX1 TX1 3, w ∈ lw_all := fun w hw => List.mem_filter.mpr ⟨(by decide +kernel : ∀ w ∈ u_ws RX1 TX1 3, w ∈ lw_tbl) w hw, (by decide +kernel : ∀ w ∈ u_ws RX1 TX1 3, goodWord w = true) w hw⟩
theorem q_f_X1_18 : Cond.fieldLink RX1 18 "CommandChain$History" "latest" "I" ∈ lw_all := lw_in 194 (by decide +kernel) (by decide +kernel)
theorem q_f_X1_22 : Cond.fieldLink RX1 22 "CommandChain$History" "count" "I" ∈ lw_all := lw_in 195 (by decide +kernel) (by decide +kernel)
theorem q_l_X1_25 : Cond.methodLink RX1 25 Lib.Math.min.name ∈ lw_all := lw_in 649 (by decide +kernel) (by decide +kernel)
theorem q_f_X1_11 : Cond.fieldLink RX1 11 "CommandChain$History" "kept" "[LCommandChain$Navy;" ∈ lw_all := lw_in 193 (by decide +kernel) (by decide +kernel)
theorem q_i_X2_copyFrom : Cond.instanceMethod yX2_copyFrom ∈ lw_all := lw_in 575 (by decide +kernel) (by decide +kernel)
theorem q_s_X2_copyFrom : Cond.selects yX2_copyFrom.cls yX2_copyFrom yX2_copyFrom ∈ lw_all := lw_in 576 (by decide +kernel) (by decide +kernel)
theorem q_c_X2_copyFrom : Cond.code yX2_copyFrom cX2_copyFrom 2 none ∈ lw_all := lw_in 577 (by decide +kernel) (by decide +kernel)
theorem q_l_X1_31 : Cond.methodLink RX1 31 yX2_copyFrom ∈ lw_all := lw_in 650 (by decide +kernel) (by decide +kernel)
/-! the ring: its own numbers (latest, count), eight navies by their places -/
abbrev HS : Type := OS × (Nat → NS)
def navs (ad : Nat → Nat) (t : Nat → ClassId) (N : Nat → NS) : va_W := (List.range 8).flatMap (fun j => nC (fun p => ad (2 + 14 * j + p)) t (N j))
def navR (ad : Nat → Nat) (t : Nat → ClassId) (N : Nat → NS) (j : Nat) : va_W := ((List.range 8).erase j).flatMap (fun j => nC (fun p => ad (2 + 14 * j + p)) t (N j))
def hs_up (σ : HS) (j : Nat) (q : NS) : HS := (σ.1, fun i => if i = j then q else σ.2 i)
theorem pm_h (ad : Nat → Nat) (t : Nat → ClassId) (N : Nat → NS) {j : Nat} (hj : j < 8) : (navs ad t N).Perm (nC (fun p => ad (2 + 14 * j + p)) t (N j) ++ navR ad t N j) := by
  have h := List.Perm.flatMap_right (fun j => nC (fun p => ad (2 + 14 * j + p)) t (N j)) (List.perm_cons_erase (List.mem_range.mpr hj))
  rw [List.flatMap_cons] at h
  exact h
theorem navR_up (ad : Nat → Nat) (t : Nat → ClassId) (N : Nat → NS) (j : Nat) (q : NS) : navR ad t (fun i => if i = j then q else N i) j = navR ad t N j := by
  unfold navR
  rw [List.flatMap_def, List.flatMap_def]
  congr 1
  refine List.map_congr_left (fun a ha => ?_)
  have hne : a ≠ j := ((List.Nodup.mem_erase_iff List.nodup_range).mp ha).1
  simp [hne]
def rC (ad : Nat → Nat) (t : Nat → ClassId) (σ : HS) : va_W := (ad 0, .inr (3, [.ref (ad 1), .int (os_f σ.1 1), .int (os_f σ.1 2)])) :: (ad 1, .inl (t 3, 8, .inr (.inr (.inr (.inr (fun j => some (ad (2 + 14 * j)))))))) :: navs ad t σ.2
def hR (ad : Nat → Nat) (t : Nat → ClassId) (σ : HS) (j : Nat) : va_W := (ad 0, .inr (3, [.ref (ad 1), .int (os_f σ.1 1), .int (os_f σ.1 2)])) :: (ad 1, .inl (t 3, 8, .inr (.inr (.inr (.inr (fun j => some (ad (2 + 14 * j)))))))) :: navR ad t σ.2 j
theorem pm_hj (ad : Nat → Nat) (t : Nat → ClassId) (σ : HS) (rs : va_W) {j : Nat} (hj : j < 8) : (rC ad t σ ++ rs).Perm (nC (fun p => ad (2 + 14 * j + p)) t (σ.2 j) ++ (hR ad t σ j ++ rs)) := by
  have h1 : (rC ad t σ).Perm (nC (fun p => ad (2 + 14 * j + p)) t (σ.2 j) ++ hR ad t σ j) := by
    refine ((List.Perm.cons _ (List.Perm.cons _ (pm_h ad t σ.2 hj)))).trans ?_
    refine (List.Perm.cons _ List.perm_middle.symm).trans ?_
    exact List.perm_middle.symm
  have h2 := List.Perm.append_right rs h1
  rw [List.append_assoc] at h2
  exact h2
theorem hR_up (ad : Nat → Nat) (t : Nat → ClassId) (σ : HS) (j : Nat) (q : NS) : hR ad t (hs_up σ j q) j = hR ad t σ j := by
  unfold hR hs_up
  rw [navR_up]
theorem hs_up_at (σ : HS) (j : Nat) (q : NS) : (hs_up σ j q).2 j = q := by simp [hs_up]
/-- an answer of the ring: -1 is null, else a place -/
def gx_hv (ad : Nat → Nat) (v : Int32) : Value := if v = -1 then .null else .ref (ad (2 + 14 * v.toNatClampNeg))
theorem gx_hv_r {ad : Nat → Nat} {i : Int32} (h : gx_in i 8) : gx_hv ad i = .ref (ad (2 + 14 * i.toNatClampNeg)) := by
  unfold gx_hv
  rw [if_neg]
  intro e
  exact h (Or.inl (by rw [e]; decide))
theorem gx_hv_or (ad : Nat → Nat) (v : Int32) : gx_hv ad v = .null ∨ ∃ a, gx_hv ad v = .ref a := by
  unfold gx_hv
  by_cases h : v = -1
  · rw [if_pos h]; exact Or.inl rfl
  · rw [if_neg h]; exact Or.inr ⟨_, rfl⟩
section HRows
variable {D : va_G} {t : Nat → ClassId} {E : gx_E} {l : Launch} {R : Room} {cc : ByteArray} {own : String} {nL : Nat} {J : gx_J} {k n : Nat} {w : va_W} {pc : Nat} {L : List (Nat × Value)} {st : List Value}
theorem j_qald (g : gx_G D t E l R cc own nL J) {a N : Nat} {f : Nat → Option Nat} (q0 : Nat) (ha : w[q0]? = some (a, .inl (t 3, N, .inr (.inr (.inr (.inr f)))))) {i : Int32} (hin : gx_in i N) (hd : decode cc pc = .ok (.aaload, 1)) (kk : J k n w (pc + 1) L (va_rf (f i.toNatClampNeg) :: st)) : J k n w pc L (.int i :: .ref a :: st) := by
  obtain ⟨p, e, s, m, args, below, meth, c, A, Q, rfl, hx, hb, hml, hown, hts, hK, hA, hE⟩ := g
  intro H locs ls hP hD hS hl
  exact va_aldq hx hb hK hP q0 3 ha rfl hin hd (kk H locs ls hP hD hS hl)
theorem j_ifnull (g : gx_G D t E l R cc own nL J) {x : Nat} {off : Int} (hd : decode cc pc = .ok (.ifnull off, 3)) (kk : J k n w (pc + 3) L st) : J k n w pc L (.ref x :: st) := by
  obtain ⟨p, e, s, m, args, below, meth, c, A, Q, rfl, hx, hb, hml, hown, hts, hK, hA, hE⟩ := g
  intro H locs ls hP hD hS hl
  exact lv_ifnull hx hb hd (kk H locs ls hP hD hS hl)
theorem j_ifnonnull (g : gx_G D t E l R cc own nL J) {x : Nat} {off : Int} {tgt : Nat} (hd : decode cc pc = .ok (.ifnonnull off, 3)) (ht : (pc : Int) + off = (tgt : Int)) (kk : J k n w tgt L st) : J k n w pc L (.ref x :: st) := by
  obtain ⟨p, e, s, m, args, below, meth, c, A, Q, rfl, hx, hb, hml, hown, hts, hK, hA, hE⟩ := g
  intro H locs ls hP hD hS hl
  exact lv_ifnonnull hx hb hd ht (kk H locs ls hP hD hS hl)
theorem j_nullp (g : gx_G D t E l R cc own nL J) (hd : decode cc pc = .ok (.aconst_null, 1)) (kk : J k n w (pc + 1) L (.null :: st)) : J k n w pc L st := by
  obtain ⟨p, e, s, m, args, below, meth, c, A, Q, rfl, hx, hb, hml, hown, hts, hK, hA, hE⟩ := g
  intro H locs ls hP hD hS hl
  exact lv_null hx hb hd (kk H locs ls hP hD hS hl)
end HRows
def fX1_keep (σ : (HS × NS)) : Option (HS × NS) := (gx_chk (gx_in (os_f (os_sf (os_sf σ.1.1 1 (((os_f σ.1.1 1) + (1 : Int32)) - ((os_f σ.1.1 1) + (1 : Int32)) / (8 : Int32) * (8 : Int32))) 2 (if ((os_f (os_sf σ.1.1 1 (((os_f σ.1.1 1) + (1 : Int32)) - ((os_f σ.1.1 1) + (1 : Int32)) / (8 : Int32) * (8 : Int32))) 2) + (1 : Int32)) < (8 : Int32) then ((os_f (os_sf σ.1.1 1 (((os_f σ.1.1 1) + (1 : Int32)) - ((os_f σ.1.1 1) + (1 : Int32)) / (8 : Int32) * (8 : Int32))) 2) + (1 : Int32)) else (8 : Int32))) 1) 8) (gx_b (fX2_copyFrom ((os_sf (os_sf σ.1.1 1 (((os_f σ.1.1 1) + (1 : Int32)) - ((os_f σ.1.1 1) + (1 : Int32)) / (8 : Int32) * (8 : Int32))) 2 (if ((os_f (os_sf σ.1.1 1 (((os_f σ.1.1 1) + (1 : Int32)) - ((os_f σ.1.1 1) + (1 : Int32)) / (8 : Int32) * (8 : Int32))) 2) + (1 : Int32)) < (8 : Int32) then ((os_f (os_sf σ.1.1 1 (((os_f σ.1.1 1) + (1 : Int32)) - ((os_f σ.1.1 1) + (1 : Int32)) / (8 : Int32) * (8 : Int32))) 2) + (1 : Int32)) else (8 : Int32)), σ.1.2).2 (os_f (os_sf (os_sf σ.1.1 1 (((os_f σ.1.1 1) + (1 : Int32)) - ((os_f σ.1.1 1) + (1 : Int32)) / (8 : Int32) * (8 : Int32))) 2 (if ((os_f (os_sf σ.1.1 1 (((os_f σ.1.1 1) + (1 : Int32)) - ((os_f σ.1.1 1) + (1 : Int32)) / (8 : Int32) * (8 : Int32))) 2) + (1 : Int32)) < (8 : Int32) then ((os_f (os_sf σ.1.1 1 (((os_f σ.1.1 1) + (1 : Int32)) - ((os_f σ.1.1 1) + (1 : Int32)) / (8 : Int32) * (8 : Int32))) 2) + (1 : Int32)) else (8 : Int32))) 1).toNatClampNeg, σ.2)) (fun r44 => (some (hs_up (os_sf (os_sf σ.1.1 1 (((os_f σ.1.1 1) + (1 : Int32)) - ((os_f σ.1.1 1) + (1 : Int32)) / (8 : Int32) * (8 : Int32))) 2 (if ((os_f (os_sf σ.1.1 1 (((os_f σ.1.1 1) + (1 : Int32)) - ((os_f σ.1.1 1) + (1 : Int32)) / (8 : Int32) * (8 : Int32))) 2) + (1 : Int32)) < (8 : Int32) then ((os_f (os_sf σ.1.1 1 (((os_f σ.1.1 1) + (1 : Int32)) - ((os_f σ.1.1 1) + (1 : Int32)) / (8 : Int32) * (8 : Int32))) 2) + (1 : Int32)) else (8 : Int32)), σ.1.2) (os_f (os_sf (os_sf σ.1.1 1 (((os_f σ.1.1 1) + (1 : Int32)) - ((os_f σ.1.1 1) + (1 : Int32)) / (8 : Int32) * (8 : Int32))) 2 (if ((os_f (os_sf σ.1.1 1 (((os_f σ.1.1 1) + (1 : Int32)) - ((os_f σ.1.1 1) + (1 : Int32)) / (8 : Int32) * (8 : Int32))) 2) + (1 : Int32)) < (8 : Int32) then ((os_f (os_sf σ.1.1 1 (((os_f σ.1.1 1) + (1 : Int32)) - ((os_f σ.1.1 1) + (1 : Int32)) / (8 : Int32) * (8 : Int32))) 2) + (1 : Int32)) else (8 : Int32))) 1).toNatClampNeg r44.1, r44.2)))))
def fX1_takeLatest (σ : HS) : Option (Int32 × HS) := (if (os_f σ.1 2) = 0 then (some ((-1 : Int32), σ)) else (gx_chk (gx_in (os_f σ.1 1) 8) (some (os_f σ.1 1, (os_sf (os_sf σ.1 1 ((((os_f σ.1 1) + (8 : Int32)) - (1 : Int32)) - (((os_f σ.1 1) + (8 : Int32)) - (1 : Int32)) / (8 : Int32) * (8 : Int32))) 2 ((os_f (os_sf σ.1 1 ((((os_f σ.1 1) + (8 : Int32)) - (1 : Int32)) - (((os_f σ.1 1) + (8 : Int32)) - (1 : Int32)) / (8 : Int32) * (8 : Int32))) 2) - (1 : Int32)), σ.2)))))
def fX1_clear (σ : HS) : Option HS := (some (os_sf σ.1 2 (0 : Int32), σ.2))
theorem gHN_X1_0_1 {D : va_G} {t : Nat → ClassId} {aa : gx_AA} {l : Launch} {R : Room} {cc : ByteArray} {nL : Nat} {J : gx_J} {ad bd : Nat → Nat} {rs : va_W} {k n pc : Nat} {L : List (Nat × Value)} {st : List Value} (g : gx_G D t (gx_E0 aa) l R cc RX1 nL J) {σ : (HS × NS)} (hd : decode cc pc = .ok (.getfield 18, 3)) (kk : J k n (rC ad t σ.1 ++ (nC bd t σ.2 ++ rs)) (pc + 3) L (.int (os_f σ.1.1 1) :: st)) : J k n (rC ad t σ.1 ++ (nC bd t σ.2 ++ rs)) pc L (.ref (ad 0) :: st) := j_get g in_X1 0 rfl rfl 1 (by decide) q_f_X1_18 rfl rfl hd kk
theorem pHN_X1_0_1 {D : va_G} {t : Nat → ClassId} {aa : gx_AA} {l : Launch} {R : Room} {cc : ByteArray} {nL : Nat} {J : gx_J} {ad bd : Nat → Nat} {rs : va_W} {k n pc : Nat} {L : List (Nat × Value)} {st : List Value} (g : gx_G D t (gx_E0 aa) l R cc RX1 nL J) {σ : (HS × NS)} {v : Int32} (hd : decode cc pc = .ok (.putfield 18, 3)) (kk : J k n (rC ad t (os_sf σ.1.1 1 v, σ.1.2) ++ (nC bd t σ.2 ++ rs)) (pc + 3) L st) : J k n (rC ad t σ.1 ++ (nC bd t σ.2 ++ rs)) pc L (.int v :: .ref (ad 0) :: st) := j_put (w' := rC ad t (os_sf σ.1.1 1 v, σ.1.2) ++ (nC bd t σ.2 ++ rs)) g in_X1 0 rfl rfl 1 (by decide) q_f_X1_18 rfl tyX1 tyX1_ok nmX1 rfl (ty := .int) (by decide +kernel) rfl rfl (Nat.le_of_ble_eq_true rfl) rfl hd kk
theorem gHN_X1_0_2 {D : va_G} {t : Nat → ClassId} {aa : gx_AA} {l : Launch} {R : Room} {cc : ByteArray} {nL : Nat} {J : gx_J} {ad bd : Nat → Nat} {rs : va_W} {k n pc : Nat} {L : List (Nat × Value)} {st : List Value} (g : gx_G D t (gx_E0 aa) l R cc RX1 nL J) {σ : (HS × NS)} (hd : decode cc pc = .ok (.getfield 22, 3)) (kk : J k n (rC ad t σ.1 ++ (nC bd t σ.2 ++ rs)) (pc + 3) L (.int (os_f σ.1.1 2) :: st)) : J k n (rC ad t σ.1 ++ (nC bd t σ.2 ++ rs)) pc L (.ref (ad 0) :: st) := j_get g in_X1 0 rfl rfl 2 (by decide) q_f_X1_22 rfl rfl hd kk
theorem pHN_X1_0_2 {D : va_G} {t : Nat → ClassId} {aa : gx_AA} {l : Launch} {R : Room} {cc : ByteArray} {nL : Nat} {J : gx_J} {ad bd : Nat → Nat} {rs : va_W} {k n pc : Nat} {L : List (Nat × Value)} {st : List Value} (g : gx_G D t (gx_E0 aa) l R cc RX1 nL J) {σ : (HS × NS)} {v : Int32} (hd : decode cc pc = .ok (.putfield 22, 3)) (kk : J k n (rC ad t (os_sf σ.1.1 2 v, σ.1.2) ++ (nC bd t σ.2 ++ rs)) (pc + 3) L st) : J k n (rC ad t σ.1 ++ (nC bd t σ.2 ++ rs)) pc L (.int v :: .ref (ad 0) :: st) := j_put (w' := rC ad t (os_sf σ.1.1 2 v, σ.1.2) ++ (nC bd t σ.2 ++ rs)) g in_X1 0 rfl rfl 2 (by decide) q_f_X1_22 rfl tyX1 tyX1_ok nmX1 rfl (ty := .int) (by decide +kernel) rfl rfl (Nat.le_of_ble_eq_true rfl) rfl hd kk
theorem gHN_X1_0_0 {D : va_G} {t : Nat → ClassId} {aa : gx_AA} {l : Launch} {R : Room} {cc : ByteArray} {nL : Nat} {J : gx_J} {ad bd : Nat → Nat} {rs : va_W} {k n pc : Nat} {L : List (Nat × Value)} {st : List Value} (g : gx_G D t (gx_E0 aa) l R cc RX1 nL J) {σ : (HS × NS)} (hd : decode cc pc = .ok (.getfield 11, 3)) (kk : J k n (rC ad t σ.1 ++ (nC bd t σ.2 ++ rs)) (pc + 3) L (.ref (ad 1) :: st)) : J k n (rC ad t σ.1 ++ (nC bd t σ.2 ++ rs)) pc L (.ref (ad 0) :: st) := j_get g in_X1 0 rfl rfl 0 (by decide) q_f_X1_11 rfl rfl hd kk
theorem cHN_copy {D : va_G} {t : Nat → ClassId} {aa : gx_AA} {l : Launch} {R : Room} {cc : ByteArray} {nL : Nat} {J : gx_J} {ad bd : Nat → Nat} {rs : va_W} {k n pc : Nat} {L : List (Nat × Value)} {rest : List Value} (g : gx_G D t (gx_E0 aa) l R cc RX1 nL J) {σ : HS × NS} {i : Int32} (hi : gx_in i 8) {q : NS × NS} {fr lo : Nat} (hC : gx_C D t (gx_E0 aa) l yX2_copyFrom cX2_copyFrom 2 none fr lo [.ref (ad (2 + 14 * i.toNatClampNeg)), .ref (bd 0)] (nC (fun p => ad (2 + 14 * i.toNatClampNeg + p)) t (σ.1.2 i.toNatClampNeg) ++ (nC bd t σ.2 ++ (hR ad t σ.1 i.toNatClampNeg ++ rs))) (nC (fun p => ad (2 + 14 * i.toNatClampNeg + p)) t q.1 ++ (nC bd t q.2 ++ (hR ad t σ.1 i.toNatClampNeg ++ rs))) none) (hR9 : fr + 1 ≤ R.frames ∧ 8 + (2 + 11) + lo ≤ R.locals) (hkn : k ≤ R.cells ∧ n ≤ R.slots) (hcat : (rest.map fun v => v.category).sum ≤ 8) (hd : decode cc pc = .ok (.invokevirtual 31, 3)) (kk : J k n (rC ad t (hs_up σ.1 i.toNatClampNeg q.1) ++ (nC bd t q.2 ++ rs)) (pc + 3) L rest) : J k n (rC ad t σ.1 ++ (nC bd t σ.2 ++ rs)) pc L (.ref (bd 0) :: .ref (ad (2 + 14 * i.toNatClampNeg)) :: rest) := by
  have hj := (gx_in_lt hi (by decide)).2.2
  have hp : (rC ad t σ.1 ++ (nC bd t σ.2 ++ rs)).Perm (nC (fun p => ad (2 + 14 * i.toNatClampNeg + p)) t (σ.1.2 i.toNatClampNeg) ++ (nC bd t σ.2 ++ (hR ad t σ.1 i.toNatClampNeg ++ rs))) := (pm_hj ad t σ.1 _ hj).trans (List.Perm.append_left _ (pm_x _ _ _))
  have hp2 : (rC ad t (hs_up σ.1 i.toNatClampNeg q.1) ++ (nC bd t q.2 ++ rs)).Perm (nC (fun p => ad (2 + 14 * i.toNatClampNeg + p)) t q.1 ++ (nC bd t q.2 ++ (hR ad t σ.1 i.toNatClampNeg ++ rs))) := by
    have h := (pm_hj ad t (hs_up σ.1 i.toNatClampNeg q.1) (nC bd t q.2 ++ rs) hj).trans (List.Perm.append_left _ (pm_x _ _ _))
    rw [hs_up_at, hR_up] at h
    exact h
  have hm : (ad (2 + 14 * i.toNatClampNeg), Sum.inr (4, [.ref (ad (2 + 14 * i.toNatClampNeg + 1)), .ref (ad (2 + 14 * i.toNatClampNeg + 7)), .ref (ad (2 + 14 * i.toNatClampNeg + 11)), .int (os_f (σ.1.2 i.toNatClampNeg).1 3), .int (os_f (σ.1.2 i.toNatClampNeg).1 4), .int (os_f (σ.1.2 i.toNatClampNeg).1 5), .int (os_f (σ.1.2 i.toNatClampNeg).1 6)])) ∈ rC ad t σ.1 ++ (nC bd t σ.2 ++ rs) := hp.symm.subset (List.mem_append_left _ List.mem_cons_self)
  obtain ⟨q0, hq0⟩ := List.getElem?_of_mem hm
  exact j_callVv (na := 1) (As := [.ref (bd 0)]) (q0 := q0) (ci := 4) g hC q_i_X2_copyFrom q_s_X2_copyFrom rfl rfl hq0 q_c_X2_copyFrom q_l_X1_31 q_n_X2 (by decide +kernel) rfl hR9 hkn hcat hp hp2.symm hd kk rfl
set_option maxRecDepth 100000 in
set_option maxHeartbeats 4000000 in
theorem cX1_keep_ {D : va_G} {t : Nat → ClassId} {aa : gx_AA} {l : Launch} {ad bd : Nat → Nat} {rs : va_W} {σ : (HS × NS)} {q : (HS × NS)} (hf : fX1_keep σ = some q) : gx_C D t (gx_E0 aa) l yX1_keep cX1_keep 3 none 3 83 [.ref (ad 0), .ref (bd 0)] (rC ad t σ.1 ++ (nC bd t σ.2 ++ rs)) (rC ad t q.1 ++ (nC bd t q.2 ++ rs)) none := by
  refine gx_intro_v (by decide) (Nat.le_of_ble_eq_true rfl) (fun J g hE0 => ?_)
  have hE : ∀ (σ : (HS × NS)) (pc : Nat) (L : List (Nat × Value)), some σ = some q → decode cX1_keep pc = .ok (.return_, 1) → J 0 0 (rC ad t σ.1 ++ (nC bd t σ.2 ++ rs)) pc L [] := fun σ pc L h h1 => by cases h; exact hE0 pc L h1
  unfold fX1_keep at hf
  show J 0 0 (rC ad t σ.1 ++ (nC bd t σ.2 ++ rs)) 0 [(0, .ref (ad 0)), (1, .ref (bd 0))] []
  refine j_aload_n (pc := 0) g 0 dX1_keep_0 rfl ?_
  refine j_aload_n (pc := 1) g 0 dX1_keep_1 rfl ?_
  refine gHN_X1_0_1 (σ := σ) (pc := 2) g dX1_keep_2 ?_
  refine j_iconst (v := 1) (pc := 5) g dX1_keep_5 (by decide) ?_
  refine j_iadd (pc := 6) g dX1_keep_6 ?_
  refine j_bipush (v := 8) (pc := 7) g dX1_keep_7 (by decide) ?_
  refine j_irem (pc := 9) g dX1_keep_9 (by decide) ?_
  refine pHN_X1_0_1 (σ := σ) (pc := 10) g dX1_keep_10 ?_
  refine j_aload_n (pc := 13) g 0 dX1_keep_13 rfl ?_
  refine j_bipush (v := 8) (pc := 14) g dX1_keep_14 (by decide) ?_
  refine j_aload_n (pc := 16) g 0 dX1_keep_16 rfl ?_
  refine gHN_X1_0_2 (σ := ((os_sf σ.1.1 1 (((os_f σ.1.1 1) + (1 : Int32)) - ((os_f σ.1.1 1) + (1 : Int32)) / (8 : Int32) * (8 : Int32)), σ.1.2), σ.2)) (pc := 17) g dX1_keep_17 ?_
  refine j_iconst (v := 1) (pc := 20) g dX1_keep_20 (by decide) ?_
  refine j_iadd (pc := 21) g dX1_keep_21 ?_
  refine j_min (pc := 22) g q_l_X1_25 q_t_mathmin q_n_math q_c_mathmin (Nat.le_of_ble_eq_true rfl) (Nat.le_of_ble_eq_true rfl) ⟨Nat.zero_le _, Nat.zero_le _⟩ dX1_keep_22 ?_
  refine pHN_X1_0_2 (σ := ((os_sf σ.1.1 1 (((os_f σ.1.1 1) + (1 : Int32)) - ((os_f σ.1.1 1) + (1 : Int32)) / (8 : Int32) * (8 : Int32)), σ.1.2), σ.2)) (pc := 25) g dX1_keep_25 ?_
  refine j_aload_n (pc := 28) g 0 dX1_keep_28 rfl ?_
  refine gHN_X1_0_0 (σ := ((os_sf (os_sf σ.1.1 1 (((os_f σ.1.1 1) + (1 : Int32)) - ((os_f σ.1.1 1) + (1 : Int32)) / (8 : Int32) * (8 : Int32))) 2 (if ((os_f (os_sf σ.1.1 1 (((os_f σ.1.1 1) + (1 : Int32)) - ((os_f σ.1.1 1) + (1 : Int32)) / (8 : Int32) * (8 : Int32))) 2) + (1 : Int32)) < (8 : Int32) then ((os_f (os_sf σ.1.1 1 (((os_f σ.1.1 1) + (1 : Int32)) - ((os_f σ.1.1 1) + (1 : Int32)) / (8 : Int32) * (8 : Int32))) 2) + (1 : Int32)) else (8 : Int32)), σ.1.2), σ.2)) (pc := 29) g dX1_keep_29 ?_
  refine j_aload_n (pc := 32) g 0 dX1_keep_32 rfl ?_
  refine gHN_X1_0_1 (σ := ((os_sf (os_sf σ.1.1 1 (((os_f σ.1.1 1) + (1 : Int32)) - ((os_f σ.1.1 1) + (1 : Int32)) / (8 : Int32) * (8 : Int32))) 2 (if ((os_f (os_sf σ.1.1 1 (((os_f σ.1.1 1) + (1 : Int32)) - ((os_f σ.1.1 1) + (1 : Int32)) / (8 : Int32) * (8 : Int32))) 2) + (1 : Int32)) < (8 : Int32) then ((os_f (os_sf σ.1.1 1 (((os_f σ.1.1 1) + (1 : Int32)) - ((os_f σ.1.1 1) + (1 : Int32)) / (8 : Int32) * (8 : Int32))) 2) + (1 : Int32)) else (8 : Int32)), σ.1.2), σ.2)) (pc := 33) g dX1_keep_33 ?_
  obtain ⟨h_36, hf⟩ := gx_ck hf
  refine j_qald (pc := 36) g 1 rfl h_36 dX1_keep_36 ?_
  show J 0 0 _ 37 _ (.ref (ad (2 + 14 * (os_f (os_sf (os_sf σ.1.1 1 (((os_f σ.1.1 1) + (1 : Int32)) - ((os_f σ.1.1 1) + (1 : Int32)) / (8 : Int32) * (8 : Int32))) 2 (if ((os_f (os_sf σ.1.1 1 (((os_f σ.1.1 1) + (1 : Int32)) - ((os_f σ.1.1 1) + (1 : Int32)) / (8 : Int32) * (8 : Int32))) 2) + (1 : Int32)) < (8 : Int32) then ((os_f (os_sf σ.1.1 1 (((os_f σ.1.1 1) + (1 : Int32)) - ((os_f σ.1.1 1) + (1 : Int32)) / (8 : Int32) * (8 : Int32))) 2) + (1 : Int32)) else (8 : Int32))) 1).toNatClampNeg)) :: _)
  refine j_astore_n (L' := [(2, .ref (ad (2 + 14 * (os_f (os_sf (os_sf σ.1.1 1 (((os_f σ.1.1 1) + (1 : Int32)) - ((os_f σ.1.1 1) + (1 : Int32)) / (8 : Int32) * (8 : Int32))) 2 (if ((os_f (os_sf σ.1.1 1 (((os_f σ.1.1 1) + (1 : Int32)) - ((os_f σ.1.1 1) + (1 : Int32)) / (8 : Int32) * (8 : Int32))) 2) + (1 : Int32)) < (8 : Int32) then ((os_f (os_sf σ.1.1 1 (((os_f σ.1.1 1) + (1 : Int32)) - ((os_f σ.1.1 1) + (1 : Int32)) / (8 : Int32) * (8 : Int32))) 2) + (1 : Int32)) else (8 : Int32))) 1).toNatClampNeg))), (0, .ref (ad 0)), (1, .ref (bd 0))]) (pc := 37) g dX1_keep_37 rfl (Nat.le_of_ble_eq_true rfl) rfl ?_
  refine j_aload_n (pc := 38) g 0 dX1_keep_38 rfl ?_
  refine j_ifnull (pc := 39) g dX1_keep_39 ?_
  refine j_aload_n (pc := 42) g 0 dX1_keep_42 rfl ?_
  refine j_aload_n (pc := 43) g 2 dX1_keep_43 rfl ?_
  obtain ⟨r44, h_44, hf⟩ := gx_bs hf
  refine cHN_copy (σ := ((os_sf (os_sf σ.1.1 1 (((os_f σ.1.1 1) + (1 : Int32)) - ((os_f σ.1.1 1) + (1 : Int32)) / (8 : Int32) * (8 : Int32))) 2 (if ((os_f (os_sf σ.1.1 1 (((os_f σ.1.1 1) + (1 : Int32)) - ((os_f σ.1.1 1) + (1 : Int32)) / (8 : Int32) * (8 : Int32))) 2) + (1 : Int32)) < (8 : Int32) then ((os_f (os_sf σ.1.1 1 (((os_f σ.1.1 1) + (1 : Int32)) - ((os_f σ.1.1 1) + (1 : Int32)) / (8 : Int32) * (8 : Int32))) 2) + (1 : Int32)) else (8 : Int32)), σ.1.2), σ.2)) (pc := 44) g h_36 (cX2_copyFrom_ (ad := fun p => ad (2 + 14 * (os_f (os_sf (os_sf σ.1.1 1 (((os_f σ.1.1 1) + (1 : Int32)) - ((os_f σ.1.1 1) + (1 : Int32)) / (8 : Int32) * (8 : Int32))) 2 (if ((os_f (os_sf σ.1.1 1 (((os_f σ.1.1 1) + (1 : Int32)) - ((os_f σ.1.1 1) + (1 : Int32)) / (8 : Int32) * (8 : Int32))) 2) + (1 : Int32)) < (8 : Int32) then ((os_f (os_sf σ.1.1 1 (((os_f σ.1.1 1) + (1 : Int32)) - ((os_f σ.1.1 1) + (1 : Int32)) / (8 : Int32) * (8 : Int32))) 2) + (1 : Int32)) else (8 : Int32))) 1).toNatClampNeg + p)) (bd := bd) h_44) ⟨Nat.le_of_ble_eq_true rfl, Nat.le_of_ble_eq_true rfl⟩ ⟨Nat.zero_le _, Nat.zero_le _⟩ (Nat.le_of_ble_eq_true rfl) dX1_keep_44 ?_
  exact hE _ _ _ hf dX1_keep_47
theorem gH_X1_0_2 {D : va_G} {t : Nat → ClassId} {aa : gx_AA} {l : Launch} {R : Room} {cc : ByteArray} {nL : Nat} {J : gx_J} {ad : Nat → Nat} {rs : va_W} {k n pc : Nat} {L : List (Nat × Value)} {st : List Value} (g : gx_G D t (gx_E0 aa) l R cc RX1 nL J) {σ : HS} (hd : decode cc pc = .ok (.getfield 22, 3)) (kk : J k n (rC ad t σ ++ rs) (pc + 3) L (.int (os_f σ.1 2) :: st)) : J k n (rC ad t σ ++ rs) pc L (.ref (ad 0) :: st) := j_get g in_X1 0 rfl rfl 2 (by decide) q_f_X1_22 rfl rfl hd kk
theorem gH_X1_0_0 {D : va_G} {t : Nat → ClassId} {aa : gx_AA} {l : Launch} {R : Room} {cc : ByteArray} {nL : Nat} {J : gx_J} {ad : Nat → Nat} {rs : va_W} {k n pc : Nat} {L : List (Nat × Value)} {st : List Value} (g : gx_G D t (gx_E0 aa) l R cc RX1 nL J) {σ : HS} (hd : decode cc pc = .ok (.getfield 11, 3)) (kk : J k n (rC ad t σ ++ rs) (pc + 3) L (.ref (ad 1) :: st)) : J k n (rC ad t σ ++ rs) pc L (.ref (ad 0) :: st) := j_get g in_X1 0 rfl rfl 0 (by decide) q_f_X1_11 rfl rfl hd kk
theorem gH_X1_0_1 {D : va_G} {t : Nat → ClassId} {aa : gx_AA} {l : Launch} {R : Room} {cc : ByteArray} {nL : Nat} {J : gx_J} {ad : Nat → Nat} {rs : va_W} {k n pc : Nat} {L : List (Nat × Value)} {st : List Value} (g : gx_G D t (gx_E0 aa) l R cc RX1 nL J) {σ : HS} (hd : decode cc pc = .ok (.getfield 18, 3)) (kk : J k n (rC ad t σ ++ rs) (pc + 3) L (.int (os_f σ.1 1) :: st)) : J k n (rC ad t σ ++ rs) pc L (.ref (ad 0) :: st) := j_get g in_X1 0 rfl rfl 1 (by decide) q_f_X1_18 rfl rfl hd kk
theorem pH_X1_0_1 {D : va_G} {t : Nat → ClassId} {aa : gx_AA} {l : Launch} {R : Room} {cc : ByteArray} {nL : Nat} {J : gx_J} {ad : Nat → Nat} {rs : va_W} {k n pc : Nat} {L : List (Nat × Value)} {st : List Value} (g : gx_G D t (gx_E0 aa) l R cc RX1 nL J) {σ : HS} {v : Int32} (hd : decode cc pc = .ok (.putfield 18, 3)) (kk : J k n (rC ad t (os_sf σ.1 1 v, σ.2) ++ rs) (pc + 3) L st) : J k n (rC ad t σ ++ rs) pc L (.int v :: .ref (ad 0) :: st) := j_put (w' := rC ad t (os_sf σ.1 1 v, σ.2) ++ rs) g in_X1 0 rfl rfl 1 (by decide) q_f_X1_18 rfl tyX1 tyX1_ok nmX1 rfl (ty := .int) (by decide +kernel) rfl rfl (Nat.le_of_ble_eq_true rfl) rfl hd kk
theorem pH_X1_0_2 {D : va_G} {t : Nat → ClassId} {aa : gx_AA} {l : Launch} {R : Room} {cc : ByteArray} {nL : Nat} {J : gx_J} {ad : Nat → Nat} {rs : va_W} {k n pc : Nat} {L : List (Nat × Value)} {st : List Value} (g : gx_G D t (gx_E0 aa) l R cc RX1 nL J) {σ : HS} {v : Int32} (hd : decode cc pc = .ok (.putfield 22, 3)) (kk : J k n (rC ad t (os_sf σ.1 2 v, σ.2) ++ rs) (pc + 3) L st) : J k n (rC ad t σ ++ rs) pc L (.int v :: .ref (ad 0) :: st) := j_put (w' := rC ad t (os_sf σ.1 2 v, σ.2) ++ rs) g in_X1 0 rfl rfl 2 (by decide) q_f_X1_22 rfl tyX1 tyX1_ok nmX1 rfl (ty := .int) (by decide +kernel) rfl rfl (Nat.le_of_ble_eq_true rfl) rfl hd kk
set_option maxRecDepth 100000 in
set_option maxHeartbeats 4000000 in
theorem cX1_takeLatest_ {D : va_G} {t : Nat → ClassId} {aa : gx_AA} {l : Launch} {ad : Nat → Nat} {rs : va_W} {σ : HS} {q : (Int32 × HS)} (hf : fX1_takeLatest σ = some q) : gx_C D t (gx_E0 aa) l yX1_takeLatest cX1_takeLatest 2 (some (.object "CommandChain$Navy")) 0 0 [.ref (ad 0)] (rC ad t σ ++ rs) (rC ad t q.2 ++ rs) (some (gx_hv ad q.1)) := by
  refine gx_intro_a (by decide) (Nat.le_of_ble_eq_true rfl) (fun J g hE0 => ?_)
  have hE : ∀ (v : Int32) (σ : HS) (pc : Nat) (L : List (Nat × Value)), some (v, σ) = some q → decode cX1_takeLatest pc = .ok (.areturn, 1) → (gx_hv ad v = .null ∨ ∃ a, gx_hv ad v = .ref a) → J 0 0 (rC ad t σ ++ rs) pc L [gx_hv ad v] := fun v σ pc L h h1 h2 => by cases h; exact hE0 pc L h1 h2
  unfold fX1_takeLatest at hf
  show J 0 0 (rC ad t σ ++ rs) 0 [(0, .ref (ad 0))] []
  refine j_aload_n (pc := 0) g 0 dX1_takeLatest_0 rfl ?_
  refine gH_X1_0_2 (σ := σ) (pc := 1) g dX1_takeLatest_1 ?_
  refine j_if_ne (tgt := 9) (pc := 4) g dX1_takeLatest_4 (by decide) (fun c_4 => ?_) (fun c_4 => ?_)
  · have hf := gx_if c_4 hf
    refine j_aload_n (pc := 9) g 0 dX1_takeLatest_9 rfl ?_
    refine gH_X1_0_0 (σ := σ) (pc := 10) g dX1_takeLatest_10 ?_
    refine j_aload_n (pc := 13) g 0 dX1_takeLatest_13 rfl ?_
    refine gH_X1_0_1 (σ := σ) (pc := 14) g dX1_takeLatest_14 ?_
    obtain ⟨h_17, hf⟩ := gx_ck hf
    refine j_qald (pc := 17) g 1 rfl h_17 dX1_takeLatest_17 ?_
    show J 0 0 _ 18 _ (.ref (ad (2 + 14 * (os_f σ.1 1).toNatClampNeg)) :: _)
    refine j_astore_n (L' := [(1, .ref (ad (2 + 14 * (os_f σ.1 1).toNatClampNeg))), (0, .ref (ad 0))]) (pc := 18) g dX1_takeLatest_18 rfl (Nat.le_of_ble_eq_true rfl) rfl ?_
    refine j_aload_n (pc := 19) g 1 dX1_takeLatest_19 rfl ?_
    refine j_aload_n (pc := 20) g 1 dX1_takeLatest_20 rfl ?_
    refine gH_X1_0_1 (σ := σ) (pc := 21) g dX1_takeLatest_21 ?_
    refine j_bipush (v := 8) (pc := 24) g dX1_takeLatest_24 (by decide) ?_
    refine j_iadd (pc := 26) g dX1_takeLatest_26 ?_
    refine j_iconst (v := 1) (pc := 27) g dX1_takeLatest_27 (by decide) ?_
    refine j_isub (pc := 28) g dX1_takeLatest_28 ?_
    refine j_bipush (v := 8) (pc := 29) g dX1_takeLatest_29 (by decide) ?_
    refine j_irem (pc := 31) g dX1_takeLatest_31 (by decide) ?_
    refine pH_X1_0_1 (σ := σ) (pc := 32) g dX1_takeLatest_32 ?_
    refine j_aload_n (pc := 35) g 1 dX1_takeLatest_35 rfl ?_
    refine j_dup (pc := 36) g dX1_takeLatest_36 rfl ?_
    refine gH_X1_0_2 (σ := (os_sf σ.1 1 ((((os_f σ.1 1) + (8 : Int32)) - (1 : Int32)) - (((os_f σ.1 1) + (8 : Int32)) - (1 : Int32)) / (8 : Int32) * (8 : Int32)), σ.2)) (pc := 37) g dX1_takeLatest_37 ?_
    refine j_iconst (v := 1) (pc := 40) g dX1_takeLatest_40 (by decide) ?_
    refine j_isub (pc := 41) g dX1_takeLatest_41 ?_
    refine pH_X1_0_2 (σ := (os_sf σ.1 1 ((((os_f σ.1 1) + (8 : Int32)) - (1 : Int32)) - (((os_f σ.1 1) + (8 : Int32)) - (1 : Int32)) / (8 : Int32) * (8 : Int32)), σ.2)) (pc := 42) g dX1_takeLatest_42 ?_
    refine j_aload_n (pc := 45) g 0 dX1_takeLatest_45 rfl ?_
    rw [← gx_hv_r h_17]
    exact hE _ _ _ _ hf dX1_takeLatest_46 (gx_hv_or ad _)
  · have hf := gx_it c_4 hf
    refine j_nullp (pc := 7) g dX1_takeLatest_7 ?_
    exact hE (-1) _ _ _ hf dX1_takeLatest_8 (gx_hv_or ad _)

set_option maxRecDepth 100000 in
set_option maxHeartbeats 4000000 in
theorem cX1_clear_ {D : va_G} {t : Nat → ClassId} {aa : gx_AA} {l : Launch} {ad : Nat → Nat} {rs : va_W} {σ : HS} {q : HS} (hf : fX1_clear σ = some q) : gx_C D t (gx_E0 aa) l yX1_clear cX1_clear 1 none 0 0 [.ref (ad 0)] (rC ad t σ ++ rs) (rC ad t q ++ rs) none := by
  refine gx_intro_v (by decide) (Nat.le_of_ble_eq_true rfl) (fun J g hE0 => ?_)
  have hE : ∀ (σ : HS) (pc : Nat) (L : List (Nat × Value)), some σ = some q → decode cX1_clear pc = .ok (.return_, 1) → J 0 0 (rC ad t σ ++ rs) pc L [] := fun σ pc L h h1 => by cases h; exact hE0 pc L h1
  unfold fX1_clear at hf
  show J 0 0 (rC ad t σ ++ rs) 0 [(0, .ref (ad 0))] []
  refine j_aload_n (pc := 0) g 0 dX1_clear_0 rfl ?_
  refine j_iconst (v := 0) (pc := 1) g dX1_clear_1 (by decide) ?_
  refine pH_X1_0_2 (σ := σ) (pc := 2) g dX1_clear_2 ?_
  exact hE _ _ _ hf dX1_clear_5
