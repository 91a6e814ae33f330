theorem q_l_X1_3 : Cond.methodLink RX1 3 Lib.objectInit ∈ lw_all := lw_in 189 (by decide +kernel) (by decide +kernel)
theorem q_k_X1_9 : Cond.classLink RX1 9 RX2 ∈ lw_all := lw_in 190 (by decide +kernel) (by decide +kernel)
theorem q_m_X2 : Cond.instantiable RX2 7 ∈ lw_all := lw_in 65 (by decide +kernel) (by decide +kernel)
theorem q_i_X2_init : Cond.instanceMethod yX2_init ∈ lw_all := lw_in 67 (by decide +kernel) (by decide +kernel)
theorem q_c_X2_init : Cond.code yX2_init cX2_init 1 none ∈ lw_all := lw_in 68 (by decide +kernel) (by decide +kernel)
theorem q_e_X1_17 {aa : gx_AA} : ∀ (A : Nat → Prop) (U : State) (H : Heap), gx_E0 aa A U H → va_Nw (Cond.methodLinkNest RX1 17 yX2_init "CommandChain") U := fun A U H h => h.1 _ (gx_nest_in 192 (by decide +kernel) (by decide +kernel))
/-- a row of references that agrees with another on its places is that row -/
theorem gx_pe {D : va_G} {cl : List vw_C} {W1 W2 : va_W} {x y : Nat × va_E} {H : Heap} (hxy : va_at D cl x H → va_at D cl y H) (h : va_P D cl (W1 ++ x :: W2) H) : va_P D cl (W1 ++ y :: W2) H := by
  intro k q hk
  have hm := List.mem_of_getElem? hk
  rcases List.mem_append.mp hm with h1 | h1
  · obtain ⟨i, hi⟩ := List.getElem?_of_mem (List.mem_append_left (x :: W2) h1)
    exact h i q hi
  · rcases List.mem_cons.mp h1 with h2 | h2
    · obtain ⟨i, hi⟩ := List.getElem?_of_mem (List.mem_append_right W1 (List.mem_cons_self (a := x) (l := W2)))
      rw [h2]
      exact hxy (h i x hi)
    · obtain ⟨i, hi⟩ := List.getElem?_of_mem (List.mem_append_right W1 (List.mem_cons_of_mem x h2))
      exact h i q hi
theorem gx_de {A : Nat → Prop} {W1 W2 : va_W} {x y : Nat × va_E} (hxy : x.1 = y.1) (h : va_D A (W1 ++ x :: W2)) : va_D A (W1 ++ y :: W2) := by
  rw [gx_Dn] at h ⊢
  refine ⟨?_, fun q hq => ?_⟩
  · have e : (W1 ++ y :: W2).map Prod.fst = (W1 ++ x :: W2).map Prod.fst := by simp [hxy]
    rw [e]
    exact h.1
  · rcases List.mem_append.mp hq with h1 | h1
    · exact h.2 q (List.mem_append_left _ h1)
    · rcases List.mem_cons.mp h1 with h2 | h2
      · rw [h2, ← hxy]
        exact h.2 x (List.mem_append_right _ List.mem_cons_self)
      · exact h.2 q (List.mem_append_right _ (List.mem_cons_of_mem _ h2))
theorem j_aq {D : va_G} {t : Nat → ClassId} {E : gx_E} {l : Launch} {R : Room} {cc : ByteArray} {own : String} {nL : Nat} {J : gx_J} {k n : Nat} {pc : Nat} {L : List (Nat × Value)} {st : List Value} (g : gx_G D t E l R cc own nL J) {W1 W2 : va_W} {a N : Nat} {f f' : Nat → Option Nat} (hf : ∀ x, x < N → f x = f' x) (kk : J k n (W1 ++ (a, .inl (t 3, N, .inr (.inr (.inr (.inr f'))))) :: W2) pc L st) : J k n (W1 ++ (a, .inl (t 3, N, .inr (.inr (.inr (.inr f))))) :: W2) pc L st := by
  obtain ⟨p, e, s, m, args, below, meth, c, A, Q, rfl, hx, hb, hml, hown, hts, hK, hA, hE⟩ := g
  intro H locs ls hP hD hS hl
  refine kk H locs ls (gx_pe (fun hh => ?_) hP) (gx_de (x := (a, .inl (t 3, N, .inr (.inr (.inr (.inr f)))))) (y := (a, .inl (t 3, N, .inr (.inr (.inr (.inr f')))))) rfl hD) hS hl
  have hh' : H[a]? = some (vp_cell (t 3) (N, .inr (.inr (.inr (.inr f))))) := hh
  show H[a]? = some (vp_cell (t 3) (N, .inr (.inr (.inr (.inr f')))))
  rw [hh', vp_cell_q, vp_cell_q]
  have e : (Array.ofFn (n := N) fun j => va_rf (f j.val)) = (Array.ofFn (n := N) fun j => va_rf (f' j.val)) := by
    congr 1
    funext j
    rw [hf j.val j.isLt]
  unfold arrV
  rw [e]
def nav0 (ad : Nat → Nat) (t : Nat → ClassId) (n0 : NS) (j : Nat) : va_W := (List.range j).flatMap (fun x => nC (fun p => ad (2 + 14 * x + p)) t n0)
def hfn (ad : Nat → Nat) (j : Nat) : Nat → Option Nat := fun x => if x < j then some (ad (2 + 14 * x)) else none
theorem nav0_congr {f g : Nat → Nat} {j : Nat} (h : ∀ p, p < 2 + 14 * j → f p = g p) (t : Nat → ClassId) (n0 : NS) : nav0 f t n0 j = nav0 g t n0 j := by
  unfold nav0
  rw [List.flatMap_def, List.flatMap_def]
  congr 1
  refine List.map_congr_left (fun x hx => ?_)
  have hx' := List.mem_range.mp hx
  exact nC_congr (fun p hp => h _ (by omega)) t n0
theorem nav0_succ (ad : Nat → Nat) (t : Nat → ClassId) (n0 : NS) (j : Nat) : nav0 ad t n0 (j + 1) = nav0 ad t n0 j ++ nC (fun p => ad (2 + 14 * j + p)) t n0 := by
  unfold nav0
  rw [List.range_succ, List.flatMap_append, List.flatMap_cons, List.flatMap_nil, List.append_nil]
set_option maxRecDepth 100000 in
set_option maxHeartbeats 4000000 in
theorem cX1_init_ {D : va_G} {t : Nat → ClassId} {aa : gx_AA} {l : Launch} {rs : va_W} {a : Nat} {qo : OS} (ho : fX3_init = some qo) : gx_CN D t (gx_E0 aa) l yX1_init cX1_init 2 3 60 113 1120 [.ref a] ((a, .inr (3, [.null, .int 0, .int 0])) :: rs) (fun w' => ∃ ad : Nat → Nat, ad 0 = a ∧ w' = rC ad t (os_0, fun _ => (os_0, qo, os_0, os_0)) ++ rs) := by
  refine gx_intro_n (by decide) rfl (Nat.le_of_ble_eq_true rfl) (fun J gi hE => ?_)
  have g := gi.g
  show J 0 0 ((a, .inr (3, [.null, .int 0, .int 0])) :: rs) 0 [(0, .ref a)] []
  refine j_aload_n (pc := 0) g 0 dX1_init_0 rfl ?_
  refine j_obj (pc := 1) g q_l_X1_3 q_i_obj q_c_obj (Nat.le_of_ble_eq_true rfl) (Nat.le_of_ble_eq_true rfl) dX1_init_1 ?_
  refine j_aload_n (pc := 4) g 0 dX1_init_4 rfl ?_
  refine j_bipush (v := 8) (pc := 5) g dX1_init_5 (by decide) ?_
  refine j_newq (pc := 7) (N := 8) g q_k_X1_9 (fun A U H h => h.2.2.2.2.2.2.2.2.2.2.2.2.2.1) (by decide) rfl (Nat.le_of_ble_eq_true rfl) (Nat.le_of_ble_eq_true rfl) (Nat.le_of_ble_eq_true rfl) dX1_init_7 (fun q1 => ?_)
  refine j_putF (pc := 10) (w' := (q1, .inl (t 3, 8, .inr (.inr (.inr (.inr (fun _ => none)))))) :: (a, .inr (3, [.ref q1, .int 0, .int 0])) :: rs) gi in_X1 1 rfl rfl 0 (by decide) q_f_X1_11 rfl tyX1 tyX1_ok nmX1 rfl rfl (ty := .array (.object "CommandChain$Navy")) (by decide +kernel) rfl rfl (Nat.le_of_ble_eq_true rfl) rfl dX1_init_10 ?_
  refine j_iconst (v := 0) (pc := 13) g dX1_init_13 (by decide) ?_
  refine j_istore_n (L' := [(1, .int 0), (0, .ref a)]) (pc := 14) g dX1_init_14 rfl (Nat.le_of_ble_eq_true rfl) rfl ?_
  suffices K : ∀ (d j : Nat) (ad : Nat → Nat), d + j = 8 → ad 0 = a → J (1 + 14 * j) (8 + 139 * j) ((ad 0, .inr (3, [.ref (ad 1), .int 0, .int 0])) :: (ad 1, .inl (t 3, 8, .inr (.inr (.inr (.inr (hfn ad j)))))) :: (nav0 ad t (os_0, qo, os_0, os_0) j ++ rs)) 15 [(1, .int (nI j)), (0, .ref a)] [] by
    refine j_perm g (List.Perm.swap _ _ _) ?_
    have h := K 8 0 (gx_cat 1 (fun _ => a) (fun _ => q1)) rfl rfl
    have e : hfn (gx_cat 1 (fun _ => a) (fun _ => q1)) 0 = fun _ => none := by
      funext x
      exact if_neg (Nat.not_lt_zero x)
    rw [e] at h
    exact h
  intro d
  induction d with
  | zero =>
    intro j ad hj had
    subst had
    have hj8 : j = 8 := by omega
    subst hj8
    refine j_iload_n (pc := 15) g 0 dX1_init_15 rfl ?_
    refine j_bipush (v := 8) (pc := 16) g dX1_init_16 (by decide) ?_
    refine j_icmp_ge (tgt := 40) (pc := 18) g dX1_init_18 (by decide) (fun _ => ?_) (fun h => absurd (by decide) h)
    refine j_aq (W1 := [(ad 0, .inr (3, [.ref (ad 1), .int 0, .int 0]))]) (f' := fun j => some (ad (2 + 14 * j))) g (fun x hx => if_pos hx) ?_
    exact hE 40 _ _ (rC ad t (os_0, fun _ => (os_0, qo, os_0, os_0)) ++ rs) dX1_init_40 (.refl _) ⟨ad, rfl, rfl⟩
  | succ d ih =>
    intro j ad hj had
    subst had
    have hj8 : j < 8 := by omega
    have hlt : nI j < 8 := by
      rw [show (8 : Int32) = nI 8 from rfl]
      exact nI_lt hj8 (by decide)
    refine j_iload_n (pc := 15) g 0 dX1_init_15 rfl ?_
    refine j_bipush (v := 8) (pc := 16) g dX1_init_16 (by decide) ?_
    refine j_icmp_ge (tgt := 40) (pc := 18) g dX1_init_18 (by decide) (fun h => absurd hlt (Int32.not_lt.mpr h)) (fun _ => ?_)
    refine j_aload_n (pc := 21) g 1 dX1_init_21 rfl ?_
    refine j_get (pc := 22) (v := .ref (ad 1)) g in_X1 0 rfl rfl 0 (by decide) q_f_X1_11 rfl rfl dX1_init_22 ?_
    refine j_iload_n (pc := 25) g 0 dX1_init_25 rfl ?_
    refine j_new (pc := 26) g in_X2 tyX2 tyX2_ok q_k_X1_9 q_m_X2 q_n_X2 (ci := 4) rfl (fs := [.null, .null, .null, .int 0, .int 0, .int 0, .int 0]) (by decide) (by show 1 + 14 * j + 1 ≤ 113; omega) (by show 8 + 139 * j + 7 ≤ 1120; omega) dX1_init_26 (fun q9 => ?_)
    refine j_dup (pc := 29) g dX1_init_29 rfl ?_
    refine j_callIn (pc := 30) g (cX2_init_ (a := q9) ho) rfl q_i_X2_init q_c_X2_init q_e_X1_17 q_n_X2 (by decide +kernel) ⟨Nat.le_of_ble_eq_true rfl, Nat.le_of_ble_eq_true rfl⟩ ⟨by show 1 + 14 * j + 1 + 13 ≤ 113; omega, by show 8 + 139 * j + 7 + 132 ≤ 1120; omega⟩ (Nat.le_of_ble_eq_true rfl) (.refl _) dX1_init_30 (fun w9 hw9 => ?_)
    obtain ⟨a2, rfl, rfl⟩ := hw9
    refine j_qast (pc := 33) g 15 0 rfl rfl (i := nI j) (N := 8) (w' := nC a2 t (os_0, qo, os_0, os_0) ++ ((ad 0, .inr (3, [.ref (ad 1), .int 0, .int 0])) :: (ad 1, .inl (t 3, 8, .inr (.inr (.inr (.inr (va_up (hfn ad j) (nI j).toNatClampNeg (some (a2 0)))))))) :: (nav0 ad t (os_0, qo, os_0, os_0) j ++ rs))) (vp_in_nI hj8 (by decide)) rfl dX1_init_33 ?_
    refine j_iinc (v := nI j + 1) (L' := [(1, .int (nI j + 1)), (0, .ref (ad 0))]) (pc := 34) g 0 dX1_init_34 rfl rfl (Nat.le_of_ble_eq_true rfl) rfl ?_
    refine j_goto (tgt := 15) (pc := 37) g dX1_init_37 (by decide) ?_
    have h := ih (j + 1) (gx_cat (2 + 14 * j) ad a2) (by omega) (by show (if 0 < 2 + 14 * j then ad 0 else _) = ad 0; rw [if_pos (by omega)])
    have e0 : gx_cat (2 + 14 * j) ad a2 0 = ad 0 := gx_cat_lo (by omega)
    have e1 : gx_cat (2 + 14 * j) ad a2 1 = ad 1 := gx_cat_lo (by omega)
    have e2 : nav0 (gx_cat (2 + 14 * j) ad a2) t (os_0, qo, os_0, os_0) (j + 1) = nav0 ad t (os_0, qo, os_0, os_0) j ++ nC a2 t (os_0, qo, os_0, os_0) := by
      rw [nav0_succ, nav0_congr (f := gx_cat (2 + 14 * j) ad a2) (g := ad) (fun p hp => gx_cat_lo hp)]
      congr 1
      exact nC_congr (fun p _ => by rw [Nat.add_comm (2 + 14 * j) p, gx_cat_hi]) t _
    have e3 : va_up (hfn ad j) (nI j).toNatClampNeg (some (a2 0)) = hfn (gx_cat (2 + 14 * j) ad a2) (j + 1) := by
      rw [nI_clamp (by omega)]
      funext x
      unfold va_up hfn
      by_cases hx : x = j
      · rw [if_pos hx, if_pos (by omega), hx]
        congr 1
        unfold gx_cat
        rw [if_neg (by omega), Nat.sub_self]
      · rw [if_neg hx]
        by_cases hx2 : x < j
        · rw [if_pos hx2, if_pos (by omega), gx_cat_lo (by omega)]
        · rw [if_neg hx2, if_neg (by omega)]
    rw [e0, e1, e2, ← e3, ← nI_1, List.append_assoc, show 1 + 14 * (j + 1) = 1 + 14 * j + 1 + 13 by omega, show 8 + 139 * (j + 1) = 8 + 139 * j + 7 + 132 by omega] at h
    refine j_perm g ?_ h
    exact (List.perm_middle.trans (List.Perm.cons _ (List.perm_middle.trans (List.Perm.cons _ (pm_x _ _ _)))))

