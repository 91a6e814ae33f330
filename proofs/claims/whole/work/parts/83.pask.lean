/-! questions: by program (wip/gen/pask.py) -/
theorem th_v {σ : OS} {v : Int32} : os_f (os_sf σ 0 v) 0 = v := sf_same
theorem le10 : ¬ (1 : Int32) ≤ 0 := by decide
theorem le20 : ¬ (2 : Int32) ≤ 0 := by decide
theorem le30 : ¬ (3 : Int32) ≤ 0 := by decide
theorem le00 : (0 : Int32) ≤ 0 := by decide
theorem or_none {α β : Type} {f : α → Option β} {n : Option β} : gx_or (none : Option α) f n = n := rfl
theorem or_some {α β : Type} {a : α} {f : α → Option β} {n : Option β} : gx_or (some a) f n = f a := rfl
theorem zR_V {c : Nat} {k : CS} {σ : OS} (h : zR c k σ) : ∃ V w, wO V 0 ∧ w ≤ V.2.1.length ∧ zN V w k.1 ∧ zG V 0 (σ.2 1) ∧ tot V ≤ c := by
  obtain ⟨V, S, Hs, ⟨w, a0, a1⟩, a2, a3, a4, -⟩ := h
  exact ⟨V, w, a3, a0, a1, a2, a4⟩
section Ask
variable {c : Nat} {k : CS} {σ : OS} {V : AN} {w : Nat}
theorem m_asked_t (hw : wO V w) (hm : zG V 0 (σ.2 1)) {o : Nat} (ho : hv V.1.2.2.2.2 o = true) : fX9_isAsked σ (nI o) = some (1, os_sf σ 0 0) := by
  unfold fX9_isAsked
  rw [m_is_t hw.1 hm.1 ho, gx_b_some, if_neg one0, th_v, if_pos rfl]
theorem m_asked_f (hw : wO V w) (hm : zG V 0 (σ.2 1)) {p : Int32} (hn : ¬ ∃ o, p = nI o ∧ hv V.1.2.2.2.2 o = true) : fX9_isAsked σ p = some (0, os_sf σ 0 1) := by
  unfold fX9_isAsked
  rw [m_is_f hw.1 hm.1 hn, gx_b_some, if_pos rfl, th_v, if_neg one0]
theorem c_req_t (hw : wO V 0) (hc : zN V w k.1) {o : Nat} (ho : hv V.1.2.2.2.2 o = true) : fX8_requireOfficer k (nI o) = some k := by
  unfold fX8_requireOfficer
  rw [c_serves_t hw.1 hc.1 ho, gx_b_some, if_neg one0]
theorem c_req_f (hw : wO V 0) (hc : zN V w k.1) {p : Int32} (hn : ¬ ∃ o, p = nI o ∧ hv V.1.2.2.2.2 o = true) : fX8_requireOfficer k p = none ∧ xX8_requireOfficer k p = some (1, k) := by
  unfold fX8_requireOfficer xX8_requireOfficer
  rw [c_serves_f hw.1 hc.1 hn, gx_b_some, gx_b_some, if_pos rfl, if_pos rfl]
  exact ⟨rfl, rfl⟩
theorem c_way_t (hw : wO V 0) (hc : zN V w k.1) {t o : Nat} (ht : t < 12) (ho : o < V.1.1) (h : t ∈ ch V.1.2.2.2.2 o) : fX8_requireWay k (nI t) (nI o) = some k := by
  unfold fX8_requireWay
  rw [c_over hw.1 hc.1 (by omega) ho, gx_b_some, ab_t h, if_neg one0]
theorem c_way_f (hw : wO V 0) (hc : zN V w k.1) {t o : Nat} (ht : t < 12) (ho : o < V.1.1) (h : t ∉ ch V.1.2.2.2.2 o) : fX8_requireWay k (nI t) (nI o) = none ∧ xX8_requireWay k (nI t) (nI o) = some (3, k) := by
  unfold fX8_requireWay xX8_requireWay
  rw [c_over hw.1 hc.1 (by omega) ho, gx_b_some, gx_b_some, ab_f h, if_pos rfl, if_pos rfl]
  exact ⟨rfl, rfl⟩
theorem m_len {p : Int32} {n : Nat} (hn : n < 2 ^ 31) : (∃ a : Nat, a < n ∧ p = nI a ∧ fX9_in p (0 : Int32) (nI n - 1) = some 1) ∨ ((¬ ∃ a : Nat, a < n ∧ p = nI a) ∧ fX9_in p (0 : Int32) (nI n - 1) = some 0) := by
  by_cases c0 : n = 0
  · subst c0
    refine Or.inr ⟨fun ⟨a, h, _⟩ => Nat.not_lt_zero _ h, ?_⟩
    unfold fX9_in
    by_cases h : p < 0
    · rw [if_pos h]
    · rw [if_neg h, if_pos]
      rw [show nI 0 - (1 : Int32) = -1 by decide]
      rw [Int32.lt_iff_toInt_lt, Int32.toInt_zero] at h
      rw [Int32.lt_iff_toInt_lt, show ((-1 : Int32).toInt) = -1 by decide]
      omega
  · have e1 : nI n - (1 : Int32) = nI (n - 1) := n_sub (a := n) (b := 1) (by omega)
    rw [e1]
    rcases rng p (b := 0) (c := n - 1) (by decide) (by omega) with ⟨a, a1, a2, rfl⟩ | ⟨hx, hy⟩
    · exact Or.inl ⟨a, by omega, rfl, m_in_t (b := 0) a1 a2 (by omega)⟩
    · exact Or.inr ⟨fun ⟨a, h, e⟩ => hx ⟨a, Nat.zero_le _, by omega, e⟩, m_in_f (b := 0) (by decide) (by omega) hx⟩
theorem c_ord (hc : zN V w k.1) (hK : V.2.1.length ≤ 6) (p : Int32) : ((∃ a : Nat, a < V.2.1.length ∧ p = nI a) → fX8_requireOrder k p = some k) ∧ ((¬ ∃ a : Nat, a < V.2.1.length ∧ p = nI a) → fX8_requireOrder k p = none ∧ xX8_requireOrder k p = some (1, k)) := by
  have e : os_f k.1.2.2.1 3 = nI V.2.1.length := hc.2.1.1
  unfold fX8_requireOrder xX8_requireOrder
  rw [e]
  refine ⟨fun ⟨a, ha, h⟩ => ?_, fun h => ?_⟩
  · subst h
    rw [if_neg (nI_pos (by omega)), n_lt (by omega) (by omega), if_pos ha]
  · by_cases h0 : p < 0
    · rw [if_pos h0, if_pos h0]; exact ⟨rfl, rfl⟩
    · obtain ⟨j, hj, rfl⟩ := nI_of h0
      rw [if_neg h0, if_neg h0, n_lt (by omega) (by omega), n_lt (by omega) (by omega), if_neg (fun q => h ⟨j, q, rfl⟩), if_neg (fun q => h ⟨j, q, rfl⟩)]
      exact ⟨rfl, rfl⟩
theorem ag_hour (h : zR c k σ) : Ag_hour (zR (c + 60)) k σ := by
  obtain ⟨V, w, hw, hwl, hc, hm, ht⟩ := zR_V h
  have hA := hw.1.2.1
  refine ⟨σ.2 1 1, os_sf σ 0 0, ?_, ?_, zR_0 (by omega) h 0⟩
  · unfold fX9_hour
    rw [gx_chk_t gi1, tc1]
    rfl
  · unfold fX8_hour
    exact congrArg some (hc.2.2.2.1.trans hm.2.2.2.1.symm)
theorem ag_appointedCount (h : zR c k σ) : Ag_appointedCount (zR (c + 60)) k σ := by
  obtain ⟨V, w, hw, hwl, hc, hm, ht⟩ := zR_V h
  have hA := hw.1.2.1
  refine ⟨σ.2 1 0, os_sf σ 0 0, ?_, ?_, zR_0 (by omega) h 0⟩
  · unfold fX9_appointedCount
    rw [gx_chk_t gi0, tc0]
    rfl
  · unfold fX8_appointedCount
    exact congrArg some (hc.1.1.trans hm.1.1.symm)
theorem ag_orderCount (h : zR c k σ) : Ag_orderCount (zR (c + 60)) k σ := by
  obtain ⟨V, w, hw, hwl, hc, hm, ht⟩ := zR_V h
  have hA := hw.1.2.1
  refine ⟨σ.2 1 5, os_sf σ 0 0, ?_, ?_, zR_0 (by omega) h 0⟩
  · unfold fX9_orderCount
    rw [gx_chk_t gi5, tc5]
    rfl
  · unfold fX8_orderCount
    exact congrArg some (hc.2.1.1.trans hm.2.1.1.symm)
theorem ag_executedOrders (h : zR c k σ) : Ag_executedOrders (zR (c + 60)) k σ := by
  obtain ⟨V, w, hw, hwl, hc, hm, ht⟩ := zR_V h
  have hA := hw.1.2.1
  refine ⟨σ.2 1 2, os_sf σ 0 0, ?_, ?_, zR_0 (by omega) h 0⟩
  · unfold fX9_executedOrders
    rw [gx_chk_t gi2, tc2]
    rfl
  · unfold fX8_executedOrders
    exact congrArg some (hc.2.2.2.2.1.trans hm.2.2.2.2.1.symm)
theorem ag_refusedOrders (h : zR c k σ) : Ag_refusedOrders (zR (c + 60)) k σ := by
  obtain ⟨V, w, hw, hwl, hc, hm, ht⟩ := zR_V h
  have hA := hw.1.2.1
  refine ⟨σ.2 1 3, os_sf σ 0 0, ?_, ?_, zR_0 (by omega) h 0⟩
  · unfold fX9_refusedOrders
    rw [gx_chk_t gi3, tc3]
    rfl
  · unfold fX8_refusedOrders
    exact congrArg some (hc.2.2.2.2.2.1.trans hm.2.2.2.2.2.1.symm)
theorem ag_lostOrders (h : zR c k σ) : Ag_lostOrders (zR (c + 60)) k σ := by
  obtain ⟨V, w, hw, hwl, hc, hm, ht⟩ := zR_V h
  have hA := hw.1.2.1
  refine ⟨σ.2 1 4, os_sf σ 0 0, ?_, ?_, zR_0 (by omega) h 0⟩
  · unfold fX9_lostOrders
    rw [gx_chk_t gi4, tc4]
    rfl
  · unfold fX8_lostOrders
    exact congrArg some (hc.2.2.2.2.2.2.trans hm.2.2.2.2.2.2.symm)
theorem ag_flagCount (h : zR c k σ) : Ag_flagCount (zR (c + 60)) k σ := by
  obtain ⟨V, w, hw, hwl, hc, hm, ht⟩ := zR_V h
  have hA := hw.1.2.1
  obtain ⟨C, hp, gl, ga⟩ := hc.2.2.1
  refine ⟨σ.2 1 6, os_sf σ 0 0, ?_, ?_, zR_0 (by omega) h 0⟩
  · unfold fX9_flagCount
    rw [gx_chk_t gi6, tc6]
    rfl
  · unfold fX8_flagCount
    exact congrArg some (gl.trans ((congrArg nI hp.length_eq).trans hm.2.2.1.1.symm))
theorem ag_officerCount (h : zR c k σ) : Ag_officerCount (zR (c + 60)) k σ := by
  obtain ⟨V, w, hw, hwl, hc, hm, ht⟩ := zR_V h
  have hA := hw.1.2.1
  refine ⟨nI (sr (fun o => i1 (hv V.1.2.2.2.2 o = true)) 0 V.1.1), os_sf σ 0 0, ?_, ?_, zR_0 (by omega) h 0⟩
  rotate_left
  · unfold fX8_officerCount
    rw [c_cserv hw.1 hc.1, gx_b_some]
  · unfold fX9_officerCount
    rw [m_many (σ := os_sf σ 0 0) hw.1 hm.1, gx_b_some]
theorem ag_isInNavy (h : zR c k σ) (p1 : Int32) : Ag_isInNavy (zR (c + 60)) k σ p1 := by
  obtain ⟨V, w, hw, hwl, hc, hm, ht⟩ := zR_V h
  have hA := hw.1.2.1
  rcases off_P (P := V.1.2.2.2.2) p1 with ⟨o, rfl, ho⟩ | hn
  · refine ⟨1, os_sf σ 0 0, ?_, ?_, zR_0 (by omega) h 0⟩
    · unfold fX9_isInNavy
      rw [m_is_t (σ := os_sf σ 0 0) hw.1 hm.1 ho, gx_b_some, gx_chk_t (Or.inr rfl)]
    · unfold fX8_isInNavy
      rw [c_serves_t hw.1 hc.1 ho, gx_b_some, gx_chk_t (Or.inr rfl)]
  · refine ⟨0, os_sf σ 0 0, ?_, ?_, zR_0 (by omega) h 0⟩
    · unfold fX9_isInNavy
      rw [m_is_f (σ := os_sf σ 0 0) hw.1 hm.1 hn, gx_b_some, gx_chk_t (Or.inl rfl)]
    · unfold fX8_isInNavy
      rw [c_serves_f hw.1 hc.1 hn, gx_b_some, gx_chk_t (Or.inl rfl)]
theorem ag_greatestDepth (h : zR c k σ) : Ag_greatestDepth (zR (c + 60)) k σ := by
  obtain ⟨V, w, hw, hwl, hc, hm, ht⟩ := zR_V h
  have hA := hw.1.2.1
  refine ⟨_, os_sf σ 0 0, m_gd (σ := os_sf σ 0 0) hw.1 hm.1, ?_, zR_0 (by omega) h 0⟩
  unfold fX8_greatestDepth
  rw [c_deepest hw.1 hc.1, gx_b_some]
theorem ag_undoCount (h : zR c k σ) : Ag_undoCount (zR (c + 60)) k σ := by
  have h0 := h
  obtain ⟨V, S, Hs, a1, a2, a3, a4, a5, a6, a7, a8, a9, a10, a11, a12⟩ := h
  refine ⟨nI Hs.length, os_sf σ 0 0, ?_, ?_, zR_0 (by omega) h0 0⟩
  · unfold fX9_undoCount
    exact congrArg (fun x => some (x, os_sf σ 0 0)) ((sf_k (by decide)).trans a7.1)
  · unfold fX8_undoCount
    exact congrArg some a6.1
theorem ag_rank (h : zR c k σ) (p1 : Int32) : Ag_rank (zR (c + 60)) k σ p1 := by
  obtain ⟨V, w, hw, hwl, hc, hm, ht⟩ := zR_V h
  have hA := hw.1.2.1
  unfold Ag_rank fX9_rank fX8_rank xX8_rank
  rcases off_P (P := V.1.2.2.2.2) p1 with ⟨o, rfl, ho⟩ | hn
  · have hoA := hv_lt hw.1 ho
    rw [m_asked_t hw hm ho, gx_b_some, if_neg one0, m_of1 (σ := os_sf σ 0 0) hA hm.1 hoA, gx_b_some, c_req_t hw hc ho, gx_b_some, gx_chk_t (nI_in (by omega) (by decide)), c_rnk hA hc.1 hoA]
    exact ⟨_, _, rfl, Or.inl ⟨_, rfl, sf_same, zR_0 (by omega) h 0⟩⟩
  · obtain ⟨q1, q2⟩ := c_req_f hw hc hn
    rw [m_asked_f hw hm hn, gx_b_some, if_pos rfl, q1, q2, or_none]
    exact ⟨_, _, rfl, Or.inr ⟨_, rfl, sf_same, zR_0 (by omega) h 1⟩⟩
theorem ag_loyalty (h : zR c k σ) (p1 : Int32) : Ag_loyalty (zR (c + 60)) k σ p1 := by
  obtain ⟨V, w, hw, hwl, hc, hm, ht⟩ := zR_V h
  have hA := hw.1.2.1
  unfold Ag_loyalty fX9_loyalty fX8_loyalty xX8_loyalty
  rcases off_P (P := V.1.2.2.2.2) p1 with ⟨o, rfl, ho⟩ | hn
  · have hoA := hv_lt hw.1 ho
    rw [m_asked_t hw hm ho, gx_b_some, if_neg one0, m_of2 (σ := os_sf σ 0 0) hA hm.1 hoA, gx_b_some, c_req_t hw hc ho, gx_b_some, gx_chk_t (nI_in (by omega) (by decide)), c_loy hA hc.1 hoA]
    exact ⟨_, _, rfl, Or.inl ⟨_, rfl, sf_same, zR_0 (by omega) h 0⟩⟩
  · obtain ⟨q1, q2⟩ := c_req_f hw hc hn
    rw [m_asked_f hw hm hn, gx_b_some, if_pos rfl, q1, q2, or_none]
    exact ⟨_, _, rfl, Or.inr ⟨_, rfl, sf_same, zR_0 (by omega) h 1⟩⟩
theorem ag_refusals (h : zR c k σ) (p1 : Int32) : Ag_refusals (zR (c + 60)) k σ p1 := by
  obtain ⟨V, w, hw, hwl, hc, hm, ht⟩ := zR_V h
  have hA := hw.1.2.1
  unfold Ag_refusals fX9_refusals fX8_refusals xX8_refusals
  rcases off_P (P := V.1.2.2.2.2) p1 with ⟨o, rfl, ho⟩ | hn
  · have hoA := hv_lt hw.1 ho
    rw [m_asked_t hw hm ho, gx_b_some, if_neg one0, m_of3 (σ := os_sf σ 0 0) hA hm.1 hoA, gx_b_some, c_req_t hw hc ho, gx_b_some, gx_chk_t (nI_in (by omega) (by decide)), c_ref hA hc.1 hoA]
    exact ⟨_, _, rfl, Or.inl ⟨_, rfl, sf_same, zR_0 (by omega) h 0⟩⟩
  · obtain ⟨q1, q2⟩ := c_req_f hw hc hn
    rw [m_asked_f hw hm hn, gx_b_some, if_pos rfl, q1, q2, or_none]
    exact ⟨_, _, rfl, Or.inr ⟨_, rfl, sf_same, zR_0 (by omega) h 1⟩⟩
theorem ag_subordinates (h : zR c k σ) (p1 : Int32) : Ag_subordinates (zR (c + 60)) k σ p1 := by
  obtain ⟨V, w, hw, hwl, hc, hm, ht⟩ := zR_V h
  have hA := hw.1.2.1
  unfold Ag_subordinates fX9_subordinates fX8_subordinates xX8_subordinates
  rcases off_P (P := V.1.2.2.2.2) p1 with ⟨o, rfl, ho⟩ | hn
  · have hoA := hv_lt hw.1 ho
    rw [m_asked_t hw hm ho, gx_b_some, if_neg one0, m_under (σ := os_sf σ 0 0) hw.1 hm.1 (by omega), gx_b_some, c_req_t hw hc ho, gx_b_some, c_csub hw.1 hc.1 (by omega), gx_b_some]
    exact ⟨_, _, rfl, Or.inl ⟨_, rfl, sf_same, zR_0 (by omega) h 0⟩⟩
  · obtain ⟨q1, q2⟩ := c_req_f hw hc hn
    rw [m_asked_f hw hm hn, gx_b_some, if_pos rfl, q1, q2, or_none]
    exact ⟨_, _, rfl, Or.inr ⟨_, rfl, sf_same, zR_0 (by omega) h 1⟩⟩
theorem ag_depth (h : zR c k σ) (p1 : Int32) : Ag_depth (zR (c + 60)) k σ p1 := by
  obtain ⟨V, w, hw, hwl, hc, hm, ht⟩ := zR_V h
  have hA := hw.1.2.1
  unfold Ag_depth fX9_depth fX8_depth xX8_depth
  rcases off_P (P := V.1.2.2.2.2) p1 with ⟨o, rfl, ho⟩ | hn
  · have hoA := hv_lt hw.1 ho
    rw [m_asked_t hw hm ho, gx_b_some, if_neg one0, m_deep (σ := os_sf σ 0 0) hw.1 hm.1 hoA, gx_b_some, c_req_t hw hc ho, gx_b_some, c_climb hw.1 hc.1 hoA, gx_b_some]
    exact ⟨_, _, rfl, Or.inl ⟨_, rfl, sf_same, zR_0 (by omega) h 0⟩⟩
  · obtain ⟨q1, q2⟩ := c_req_f hw hc hn
    rw [m_asked_f hw hm hn, gx_b_some, if_pos rfl, q1, q2, or_none]
    exact ⟨_, _, rfl, Or.inr ⟨_, rfl, sf_same, zR_0 (by omega) h 1⟩⟩
theorem ag_depthFromTop (h : zR c k σ) (p1 : Int32) : Ag_depthFromTop (zR (c + 60)) k σ p1 := by
  obtain ⟨V, w, hw, hwl, hc, hm, ht⟩ := zR_V h
  have hA := hw.1.2.1
  unfold Ag_depthFromTop fX9_depthFromTop fX9_depth fX8_depthFromTop xX8_depthFromTop
  rcases off_P (P := V.1.2.2.2.2) p1 with ⟨o, rfl, ho⟩ | hn
  · have hoA := hv_lt hw.1 ho
    rw [m_asked_t hw hm ho, gx_b_some, if_neg one0, m_deep (σ := os_sf σ 0 0) hw.1 hm.1 hoA, gx_b_some, gx_b_some, c_req_t hw hc ho, gx_b_some, c_sea hw.1 hc.1 ho, gx_b_some]
    exact ⟨_, _, rfl, Or.inl ⟨_, rfl, sf_same, zR_0 (by omega) h 0⟩⟩
  · obtain ⟨q1, q2⟩ := c_req_f hw hc hn
    rw [m_asked_f hw hm hn, gx_b_some, if_pos rfl, gx_b_some, q1, q2, or_none]
    exact ⟨_, _, rfl, Or.inr ⟨_, rfl, sf_same, zR_0 (by omega) h 1⟩⟩
theorem ag_commandSize (h : zR c k σ) (p1 : Int32) : Ag_commandSize (zR (c + 60)) k σ p1 := by
  obtain ⟨V, w, hw, hwl, hc, hm, ht⟩ := zR_V h
  have hA := hw.1.2.1
  unfold Ag_commandSize fX9_commandSize fX8_commandSize xX8_commandSize
  rcases off_P (P := V.1.2.2.2.2) p1 with ⟨o, rfl, ho⟩ | hn
  · have hoA := hv_lt hw.1 ho
    rw [m_asked_t hw hm ho, gx_b_some, if_neg one0, m_cmd (σ := os_sf σ 0 0) hw.1 hm.1 (by omega), gx_b_some, c_req_t hw hc ho, gx_b_some, c_size hw.1 hc.1 hoA, gx_b_some]
    exact ⟨_, _, rfl, Or.inl ⟨_, rfl, sf_same, zR_0 (by omega) h 0⟩⟩
  · obtain ⟨q1, q2⟩ := c_req_f hw hc hn
    rw [m_asked_f hw hm hn, gx_b_some, if_pos rfl, q1, q2, or_none]
    exact ⟨_, _, rfl, Or.inr ⟨_, rfl, sf_same, zR_0 (by omega) h 1⟩⟩
theorem ag_commandSizeByCounting (h : zR c k σ) (p1 : Int32) : Ag_commandSizeByCounting (zR (c + 60)) k σ p1 := by
  obtain ⟨V, w, hw, hwl, hc, hm, ht⟩ := zR_V h
  have hA := hw.1.2.1
  unfold Ag_commandSizeByCounting fX9_commandSizeByCounting fX9_commandSize fX8_commandSizeByCounting xX8_commandSizeByCounting
  rcases off_P (P := V.1.2.2.2.2) p1 with ⟨o, rfl, ho⟩ | hn
  · have hoA := hv_lt hw.1 ho
    rw [m_asked_t hw hm ho, gx_b_some, if_neg one0, m_cmd (σ := os_sf σ 0 0) hw.1 hm.1 (by omega), gx_b_some, gx_b_some, c_req_t hw hc ho, gx_b_some, c_ccmd hw.1 hc.1 (by omega), gx_b_some]
    exact ⟨_, _, rfl, Or.inl ⟨_, rfl, sf_same, zR_0 (by omega) h 0⟩⟩
  · obtain ⟨q1, q2⟩ := c_req_f hw hc hn
    rw [m_asked_f hw hm hn, gx_b_some, if_pos rfl, gx_b_some, q1, q2, or_none]
    exact ⟨_, _, rfl, Or.inr ⟨_, rfl, sf_same, zR_0 (by omega) h 1⟩⟩
theorem ag_superior (h : zR c k σ) (p1 : Int32) : Ag_superior (zR (c + 60)) k σ p1 := by
  obtain ⟨V, w, hw, hwl, hc, hm, ht⟩ := zR_V h
  have hA := hw.1.2.1
  unfold Ag_superior fX9_superior fX8_superior xX8_superior
  rcases off_P (P := V.1.2.2.2.2) p1 with ⟨o, rfl, ho⟩ | hn
  · have hoA := hv_lt hw.1 ho
    rw [m_is_t hw.1 hm.1 ho, gx_b_some, if_neg one0, c_req_t hw hc ho, gx_b_some, or_some, th_v, th_v]
    by_cases c0 : nI o = 0
    · rw [if_pos c0, if_neg le20, if_pos c0, if_pos c0]
      exact ⟨_, _, rfl, Or.inr (Or.inr ⟨_, rfl, sf_same, zR_0 (by omega) h 2⟩)⟩
    · rw [if_neg c0, if_pos le00, if_neg c0, m_of4 (σ := os_sf σ 0 0) hA hm.1 hoA, gx_b_some, gx_chk_t (nI_in (by omega) (by decide)), c_sup hA hc.1 hoA]
      exact ⟨_, _, rfl, Or.inl ⟨_, rfl, sf_same, zR_0 (by omega) h 0⟩⟩
  · obtain ⟨q1, q2⟩ := c_req_f hw hc hn
    rw [m_is_f hw.1 hm.1 hn, gx_b_some, if_pos rfl, th_v, if_neg le10, q1, q2, or_none]
    exact ⟨_, _, rfl, Or.inr (Or.inl ⟨_, rfl, sf_same, zR_0 (by omega) h 1⟩)⟩
theorem ag_isAbove (h : zR c k σ) (p1 p2 : Int32) : Ag_isAbove (zR (c + 60)) k σ p1 p2 := by
  obtain ⟨V, w, hw, hwl, hc, hm, ht⟩ := zR_V h
  have hA := hw.1.2.1
  unfold Ag_isAbove fX9_isAbove fX8_isAbove xX8_isAbove
  rcases off_P (P := V.1.2.2.2.2) p1 with ⟨o, rfl, ho⟩ | hn
  · have hoA := hv_lt hw.1 ho
    rw [m_is_t hw.1 hm.1 ho, gx_b_some, if_neg one0, c_req_t hw hc ho, gx_b_some, or_some]
    rcases off_P (P := V.1.2.2.2.2) p2 with ⟨s, rfl, hs⟩ | hn
    · have hsA := hv_lt hw.1 hs
      rw [m_is_t hw.1 hm.1 hs, gx_b_some, if_neg one0, th_v, if_pos rfl, m_above (σ := os_sf σ 0 0) hw.1 hm.1 (by omega) hsA, gx_b_some, c_req_t hw hc hs, gx_b_some, c_over hw.1 hc.1 (by omega) hsA, gx_b_some]
      by_cases e : o ∈ ch V.1.2.2.2.2 s
      · rw [ab_t e, if_neg one0, gx_chk_t (Or.inr rfl)]
        exact ⟨_, _, rfl, Or.inl ⟨_, rfl, sf_same, zR_0 (by omega) h 0⟩⟩
      · rw [ab_f e, if_pos rfl, gx_chk_t (Or.inl rfl)]
        exact ⟨_, _, rfl, Or.inl ⟨_, rfl, sf_same, zR_0 (by omega) h 0⟩⟩
    · obtain ⟨q1, q2⟩ := c_req_f hw hc hn
      rw [m_is_f hw.1 hm.1 hn, gx_b_some, if_pos rfl, th_v, if_neg one0, q1, q2, or_none]
      exact ⟨_, _, rfl, Or.inr ⟨_, rfl, sf_same, zR_0 (by omega) h 1⟩⟩
  · obtain ⟨q1, q2⟩ := c_req_f hw hc hn
    rw [m_is_f hw.1 hm.1 hn, gx_b_some, if_pos rfl, th_v, if_neg one0, q1, q2, or_none]
    exact ⟨_, _, rfl, Or.inr ⟨_, rfl, sf_same, zR_0 (by omega) h 1⟩⟩
theorem ag_commonSuperior (h : zR c k σ) (p1 p2 : Int32) : Ag_commonSuperior (zR (c + 60)) k σ p1 p2 := by
  obtain ⟨V, w, hw, hwl, hc, hm, ht⟩ := zR_V h
  have hA := hw.1.2.1
  unfold Ag_commonSuperior fX9_commonSuperior fX8_commonSuperior xX8_commonSuperior
  rcases off_P (P := V.1.2.2.2.2) p1 with ⟨o, rfl, ho⟩ | hn
  · have hoA := hv_lt hw.1 ho
    rw [m_is_t hw.1 hm.1 ho, gx_b_some, if_neg one0, c_req_t hw hc ho, gx_b_some, or_some]
    rcases off_P (P := V.1.2.2.2.2) p2 with ⟨s, rfl, hs⟩ | hn
    · have hcx := ch_cX hw.1 o
      rw [m_is_t hw.1 hm.1 hs, gx_b_some, if_neg one0, th_v, if_pos le00, c_req_t hw hc hs, gx_b_some, c_lowest hw.1 hc.1 ho hs, gx_b_some, m_common (σ := os_sf σ 0 0) hw.1 hm.1 hs _ o 2000 hcx.1 ho (fun q hq => (ch_mem hw.1 hq).1) (by omega)]
      exact ⟨_, _, rfl, Or.inl ⟨_, rfl, sf_same, zR_0 (by omega) h 0⟩⟩
    · obtain ⟨q1, q2⟩ := c_req_f hw hc hn
      rw [m_is_f hw.1 hm.1 hn, gx_b_some, if_pos rfl, th_v, if_neg le10, q1, q2, or_none]
      exact ⟨_, _, rfl, Or.inr ⟨_, rfl, sf_same, zR_0 (by omega) h 1⟩⟩
  · obtain ⟨q1, q2⟩ := c_req_f hw hc hn
    rw [m_is_f hw.1 hm.1 hn, gx_b_some, if_pos rfl, th_v, if_neg le10, q1, q2, or_none]
    exact ⟨_, _, rfl, Or.inr ⟨_, rfl, sf_same, zR_0 (by omega) h 1⟩⟩
theorem m_way (hw : wO V 0) (hm : zG V 0 (σ.2 1)) {o s : Nat} (ho : hv V.1.2.2.2.2 o = true) (hs : hv V.1.2.2.2.2 s = true) : fX9_isWay σ (nI o) (nI s) = if o ∈ ch V.1.2.2.2.2 s then some (1, os_sf σ 0 0) else some (0, os_sf σ 0 2) := by
  have hA := hw.1.2.1
  have hoA := hv_lt hw.1 ho
  have hsA := hv_lt hw.1 hs
  unfold fX9_isWay
  rw [m_is_t hw.1 hm.1 ho, gx_b_some, if_neg one0, m_is_t hw.1 hm.1 hs, gx_b_some, if_neg one0, m_above hw.1 hm.1 (by omega) hsA, gx_b_some, th_v, th_v]
  by_cases e : o ∈ ch V.1.2.2.2.2 s
  · rw [ab_t e, if_neg one0, if_pos rfl, if_pos e]
  · rw [ab_f e, if_pos rfl, if_neg (show ¬ (2 : Int32) = 0 by decide), if_neg e]
theorem m_way_f (hw : wO V 0) (hm : zG V 0 (σ.2 1)) {p1 p2 : Int32} (hn : (¬ ∃ o, p1 = nI o ∧ hv V.1.2.2.2.2 o = true) ∨ ((∃ o, p1 = nI o ∧ hv V.1.2.2.2.2 o = true) ∧ ¬ ∃ o, p2 = nI o ∧ hv V.1.2.2.2.2 o = true)) : fX9_isWay σ p1 p2 = some (0, os_sf σ 0 1) := by
  unfold fX9_isWay
  rcases hn with hn | ⟨⟨o, rfl, ho⟩, hn⟩
  · rw [m_is_f hw.1 hm.1 hn, gx_b_some, if_pos rfl, th_v, if_neg one0]
  · rw [m_is_t hw.1 hm.1 ho, gx_b_some, if_neg one0, m_is_f hw.1 hm.1 hn, gx_b_some, if_pos rfl, th_v, if_neg one0]
theorem ag_hoursFor (h : zR c k σ) (p1 p2 : Int32) : Ag_hoursFor (zR (c + 60)) k σ p1 p2 := by
  obtain ⟨V, w, hw, hwl, hc, hm, ht⟩ := zR_V h
  have hA := hw.1.2.1
  unfold Ag_hoursFor fX9_hoursFor fX8_hoursFor xX8_hoursFor
  rcases off_P (P := V.1.2.2.2.2) p1 with ⟨o, rfl, ho⟩ | hn
  · have hoA := hv_lt hw.1 ho
    rw [c_req_t hw hc ho, gx_b_some, or_some]
    rcases off_P (P := V.1.2.2.2.2) p2 with ⟨s, rfl, hs⟩ | hn
    · have hsA := hv_lt hw.1 hs
      have hcx := ch_cX hw.1 s
      have hL : ∀ o, o < V.1.1 → V.1.2.2.1 o ≤ 100 := fun o ho => (hw.2.1 o ho).1
      rw [m_way hw hm ho hs, c_req_t hw hc hs, gx_b_some, or_some]
      by_cases e : o ∈ ch V.1.2.2.2.2 s
      · rw [if_pos e, gx_b_some, if_neg one0, m_deep (σ := os_sf σ 0 0) hw.1 hm.1 hsA, gx_b_some, m_deep (σ := os_sf σ 0 0) hw.1 hm.1 hoA, gx_b_some, c_way_t hw hc (by omega) hsA e, gx_b_some, c_climb hw.1 hc.1 hsA, gx_b_some, c_climb hw.1 hc.1 hoA, gx_b_some]
        exact ⟨_, _, rfl, Or.inl ⟨_, rfl, sf_same, zR_0 (by omega) h 0⟩⟩
      · obtain ⟨q1, q2⟩ := c_way_f hw hc (by omega) hsA e
        rw [if_neg e, gx_b_some, if_pos rfl, q1, q2, or_none]
        exact ⟨_, _, rfl, Or.inr (Or.inr ⟨_, rfl, sf_same, zR_0 (by omega) h 2⟩)⟩
    · obtain ⟨q1, q2⟩ := c_req_f hw hc hn
      rw [m_way_f hw hm (Or.inr ⟨⟨o, rfl, ho⟩, hn⟩), gx_b_some, if_pos rfl, q1, q2, or_none]
      exact ⟨_, _, rfl, Or.inr (Or.inl ⟨_, rfl, sf_same, zR_0 (by omega) h 1⟩)⟩
  · obtain ⟨q1, q2⟩ := c_req_f hw hc hn
    rw [m_way_f hw hm (Or.inl hn), gx_b_some, if_pos rfl, q1, q2, or_none]
    exact ⟨_, _, rfl, Or.inr (Or.inl ⟨_, rfl, sf_same, zR_0 (by omega) h 1⟩)⟩
theorem ag_greatestSeverity (h : zR c k σ) (p1 p2 : Int32) : Ag_greatestSeverity (zR (c + 60)) k σ p1 p2 := by
  obtain ⟨V, w, hw, hwl, hc, hm, ht⟩ := zR_V h
  have hA := hw.1.2.1
  unfold Ag_greatestSeverity fX9_greatestSeverity fX8_greatestSeverity xX8_greatestSeverity
  rcases off_P (P := V.1.2.2.2.2) p1 with ⟨o, rfl, ho⟩ | hn
  · have hoA := hv_lt hw.1 ho
    rw [c_req_t hw hc ho, gx_b_some, or_some]
    rcases off_P (P := V.1.2.2.2.2) p2 with ⟨s, rfl, hs⟩ | hn
    · have hsA := hv_lt hw.1 hs
      have hcx := ch_cX hw.1 s
      have hL : ∀ o, o < V.1.1 → V.1.2.2.1 o ≤ 100 := fun o ho => (hw.2.1 o ho).1
      rw [m_way hw hm ho hs, c_req_t hw hc hs, gx_b_some, or_some]
      by_cases e : o ∈ ch V.1.2.2.2.2 s
      · rw [if_pos e, gx_b_some, if_neg one0, show fX9_greatestSeverity_17 2000 (os_sf σ 0 0) (nI o) (100 : Int32) (nI s) = some (nI (lea V.1.2.2.1 o 100 s (ch V.1.2.2.2.2 s)), os_sf σ 0 0) from m_least (σ := os_sf σ 0 0) hA hL hm.1 hoA _ s 100 2000 hcx.1 hsA (fun q hq => (ch_mem hw.1 hq).1) (Or.inr e) (by omega) (by omega), c_way_t hw hc (by omega) hsA e, gx_b_some, c_least hw.1 hL hc.1 e hsA, gx_b_some]
        exact ⟨_, _, rfl, Or.inl ⟨_, rfl, sf_same, zR_0 (by omega) h 0⟩⟩
      · obtain ⟨q1, q2⟩ := c_way_f hw hc (by omega) hsA e
        rw [if_neg e, gx_b_some, if_pos rfl, q1, q2, or_none]
        exact ⟨_, _, rfl, Or.inr (Or.inr ⟨_, rfl, sf_same, zR_0 (by omega) h 2⟩)⟩
    · obtain ⟨q1, q2⟩ := c_req_f hw hc hn
      rw [m_way_f hw hm (Or.inr ⟨⟨o, rfl, ho⟩, hn⟩), gx_b_some, if_pos rfl, q1, q2, or_none]
      exact ⟨_, _, rfl, Or.inr (Or.inl ⟨_, rfl, sf_same, zR_0 (by omega) h 1⟩)⟩
  · obtain ⟨q1, q2⟩ := c_req_f hw hc hn
    rw [m_way_f hw hm (Or.inl hn), gx_b_some, if_pos rfl, q1, q2, or_none]
    exact ⟨_, _, rfl, Or.inr (Or.inl ⟨_, rfl, sf_same, zR_0 (by omega) h 1⟩)⟩
theorem c_trial (hw : wO V 0) (hc : zN V w k.1) {o s : Nat} (hsA : s < V.1.1) (e : o ∈ ch V.1.2.2.2.2 s) : ∀ (d g n : Nat), lea V.1.2.2.1 o 100 s (ch V.1.2.2.2.2 s) + d = g → g ≤ 100 → d < n → fX8_greatestSeverityByTrial_19 n k (nI o) (nI s) (nI g) = some (nI (lea V.1.2.2.1 o 100 s (ch V.1.2.2.2.2 s)), k) := by
  have hL : ∀ o, o < V.1.1 → V.1.2.2.1 o ≤ 100 := fun o ho => (hw.2.1 o ho).1
  have hA := hw.1.2.1
  have hcx := ch_cX hw.1 s
  intro d
  induction d with
  | zero =>
    intro g n hg hg1 hn
    obtain ⟨m, rfl⟩ : ∃ m, n = m + 1 := ⟨n - 1, by omega⟩
    have hf := (fre_none V.1.2.2.1 (t := o) (s := g) (ch V.1.2.2.2.2 s) s 100 hg1).mp (by omega)
    rw [fX8_greatestSeverityByTrial_19]
    by_cases c0 : nI g ≤ 0
    · rw [if_pos c0, show g = lea V.1.2.2.1 o 100 s (ch V.1.2.2.2.2 s) by omega]
    · rw [if_neg c0, c_first hw.1 hL hc.1 hg1 e hsA, gx_b_some, hf, show pI none = -1 from rfl, if_pos rfl, show g = lea V.1.2.2.1 o 100 s (ch V.1.2.2.2.2 s) by omega]
  | succ d ih =>
    intro g n hg hg1 hn
    obtain ⟨m, rfl⟩ : ∃ m, n = m + 1 := ⟨n - 1, by omega⟩
    have hf : fre V.1.2.2.1 o g none s (ch V.1.2.2.2.2 s) ≠ none := fun q => by
      have := (fre_none V.1.2.2.1 (t := o) (s := g) (ch V.1.2.2.2.2 s) s 100 hg1).mpr q
      omega
    rw [fX8_greatestSeverityByTrial_19, if_neg (nI_nle (by omega) (by omega)), c_first hw.1 hL hc.1 hg1 e hsA, gx_b_some]
    cases e9 : fre V.1.2.2.1 o g none s (ch V.1.2.2.2.2 s) with
    | none => exact absurd e9 hf
    | some q =>
      have hq := fre_lt V.1.2.2.1 (A := V.1.1) _ s none hsA (fun q hq => (ch_mem hw.1 hq).1) (fun q h9 => by cases h9) q e9
      obtain ⟨g', rfl⟩ : ∃ g', g = g' + 1 := ⟨g - 1, by omega⟩
      rw [if_neg (pI_m1 rfl (by omega)), n_pm]
      exact ih g' m (by omega) (by omega) (by omega)
theorem ag_greatestSeverityByTrial (h : zR c k σ) (p1 p2 : Int32) : Ag_greatestSeverityByTrial (zR (c + 60)) k σ p1 p2 := by
  obtain ⟨V, w, hw, hwl, hc, hm, ht⟩ := zR_V h
  have hA := hw.1.2.1
  unfold Ag_greatestSeverityByTrial fX9_greatestSeverityByTrial fX9_greatestSeverity fX8_greatestSeverityByTrial xX8_greatestSeverityByTrial
  rcases off_P (P := V.1.2.2.2.2) p1 with ⟨o, rfl, ho⟩ | hn
  · have hoA := hv_lt hw.1 ho
    rw [c_req_t hw hc ho, gx_b_some, or_some]
    rcases off_P (P := V.1.2.2.2.2) p2 with ⟨s, rfl, hs⟩ | hn
    · have hsA := hv_lt hw.1 hs
      have hcx := ch_cX hw.1 s
      have hL : ∀ o, o < V.1.1 → V.1.2.2.1 o ≤ 100 := fun o ho => (hw.2.1 o ho).1
      rw [m_way hw hm ho hs, c_req_t hw hc hs, gx_b_some, or_some]
      by_cases e : o ∈ ch V.1.2.2.2.2 s
      · rw [if_pos e, gx_b_some, if_neg one0, show fX9_greatestSeverity_17 2000 (os_sf σ 0 0) (nI o) (100 : Int32) (nI s) = some (nI (lea V.1.2.2.1 o 100 s (ch V.1.2.2.2.2 s)), os_sf σ 0 0) from m_least (σ := os_sf σ 0 0) hA hL hm.1 hoA _ s 100 2000 hcx.1 hsA (fun q hq => (ch_mem hw.1 hq).1) (Or.inr e) (by omega) (by omega), gx_b_some, c_way_t hw hc (by omega) hsA e, gx_b_some, show fX8_greatestSeverityByTrial_19 2000 k (nI o) (nI s) (100 : Int32) = some (nI (lea V.1.2.2.1 o 100 s (ch V.1.2.2.2.2 s)), k) from c_trial hw hc hsA e (100 - lea V.1.2.2.1 o 100 s (ch V.1.2.2.2.2 s)) 100 2000 (by have := lea_le V.1.2.2.1 (t := o) (ch V.1.2.2.2.2 s) s 100; omega) (by omega) (by omega)]
        exact ⟨_, _, rfl, Or.inl ⟨_, rfl, sf_same, zR_0 (by omega) h 0⟩⟩
      · obtain ⟨q1, q2⟩ := c_way_f hw hc (by omega) hsA e
        rw [if_neg e, gx_b_some, if_pos rfl, gx_b_some, q1, q2, or_none]
        exact ⟨_, _, rfl, Or.inr (Or.inr ⟨_, rfl, sf_same, zR_0 (by omega) h 2⟩)⟩
    · obtain ⟨q1, q2⟩ := c_req_f hw hc hn
      rw [m_way_f hw hm (Or.inr ⟨⟨o, rfl, ho⟩, hn⟩), gx_b_some, if_pos rfl, gx_b_some, q1, q2, or_none]
      exact ⟨_, _, rfl, Or.inr (Or.inl ⟨_, rfl, sf_same, zR_0 (by omega) h 1⟩)⟩
  · obtain ⟨q1, q2⟩ := c_req_f hw hc hn
    rw [m_way_f hw hm (Or.inl hn), gx_b_some, if_pos rfl, gx_b_some, q1, q2, or_none]
    exact ⟨_, _, rfl, Or.inr (Or.inl ⟨_, rfl, sf_same, zR_0 (by omega) h 1⟩)⟩
theorem ag_firstRefusal (h : zR c k σ) (p1 p2 p3 : Int32) : Ag_firstRefusal (zR (c + 60)) k σ p1 p2 p3 := by
  obtain ⟨V, w, hw, hwl, hc, hm, ht⟩ := zR_V h
  have hA := hw.1.2.1
  unfold Ag_firstRefusal fX9_firstRefusal fX8_firstRefusal xX8_firstRefusal
  rcases off_P (P := V.1.2.2.2.2) p1 with ⟨o, rfl, ho⟩ | hn
  rotate_left
  · obtain ⟨q1, q2⟩ := c_req_f hw hc hn
    rw [m_is_f hw.1 hm.1 hn, gx_b_some, if_pos rfl, th_v, if_neg le10, q1, q2, or_none]
    exact ⟨_, _, rfl, Or.inr (Or.inl ⟨_, rfl, sf_same, zR_0 (by omega) h 1⟩)⟩
  have hoA := hv_lt hw.1 ho
  rw [m_is_t hw.1 hm.1 ho, gx_b_some, if_neg one0, c_req_t hw hc ho, gx_b_some, or_some]
  rcases off_P (P := V.1.2.2.2.2) p2 with ⟨s, rfl, hs⟩ | hn
  rotate_left
  · obtain ⟨q1, q2⟩ := c_req_f hw hc hn
    rw [m_is_f hw.1 hm.1 hn, gx_b_some, if_pos rfl, th_v, if_neg le10, q1, q2, or_none]
    exact ⟨_, _, rfl, Or.inr (Or.inl ⟨_, rfl, sf_same, zR_0 (by omega) h 1⟩)⟩
  have hsA := hv_lt hw.1 hs
  have hcx := ch_cX hw.1 s
  have hL : ∀ o, o < V.1.1 → V.1.2.2.1 o ≤ 100 := fun o ho => (hw.2.1 o ho).1
  rw [m_is_t hw.1 hm.1 hs, gx_b_some, if_neg one0, c_req_t hw hc hs, gx_b_some, or_some]
  rcases rng p3 (b := 0) (c := 100) (by decide) (by decide) with ⟨v, v1, v2, rfl⟩ | ⟨hx, hy⟩
  rotate_left
  · have e3 : fX9_in p3 (0 : Int32) (100 : Int32) = some 0 := m_in_f (b := 0) (c := 100) (by decide) (by decide) hx
    rw [e3, gx_b_some, if_pos rfl, th_v, if_neg le20]
    refine ⟨_, _, rfl, Or.inr (Or.inr (Or.inl ⟨k, ?_, sf_same, zR_0 (by omega) h 2⟩))⟩
    rcases hy with hy | ⟨hy, hz⟩
    · rw [if_pos (show p3 < 0 from hy)]
    · rw [if_neg (show ¬ p3 < 0 from hy), if_neg (show ¬ p3 ≤ 100 from hz)]
  have e3 : fX9_in (nI v) (0 : Int32) (100 : Int32) = some 1 := m_in_t (b := 0) (c := 100) v1 v2 (by decide)
  have n3 : ¬ nI v < 0 := nI_pos (by omega)
  have n4 : nI v ≤ (100 : Int32) := (nI_leI (b := 100) (by omega) (by decide)).mpr v2
  rw [e3, gx_b_some, if_neg one0, if_neg n3, if_pos n4, if_neg n3, if_pos n4, m_above hw.1 hm.1 (by omega) hsA, gx_b_some, th_v, th_v]
  by_cases e : o ∈ ch V.1.2.2.2.2 s
  rotate_left
  · obtain ⟨q1, q2⟩ := c_way_f hw hc (by omega) hsA e
    rw [ab_f e, if_pos rfl, if_neg le30, q1, q2, or_none]
    exact ⟨_, _, rfl, Or.inr (Or.inr (Or.inr (Or.inl ⟨_, rfl, sf_same, zR_0 (by omega) h 3⟩)))⟩
  rw [ab_t e, if_neg one0, if_pos le00, c_way_t hw hc (by omega) hsA e, gx_b_some, or_some, c_first hw.1 hL hc.1 v2 e hsA, gx_b_some, gx_b_some, show fX9_firstRefusal_67 2000 (os_sf σ 0 0) (nI o) (nI v) (-1 : Int32) (nI s) = _ from m_first (σ := os_sf σ 0 0) hA hL hm.1 hoA v2 _ s 2000 none hcx.1 hsA (fun q hq => (ch_mem hw.1 hq).1) (Or.inr e) (by omega) (fun q h9 => by cases h9)]
  cases e9 : fre V.1.2.2.1 o v none s (ch V.1.2.2.2.2 s) with
  | none =>
    rw [show pI none = -1 from rfl, if_pos rfl, if_pos rfl]
    exact ⟨_, _, rfl, Or.inr (Or.inr (Or.inr (Or.inr ⟨_, rfl, sf_same, zR_0 (by omega) (zR_0 (Nat.le_refl _) h 0) 4⟩)))⟩
  | some q =>
    have hq := fre_lt V.1.2.2.1 (A := V.1.1) _ s none hsA (fun q hq => (ch_mem hw.1 hq).1) (fun q h9 => by cases h9) q e9
    rw [if_neg (pI_m1 rfl (by omega)), if_neg (pI_m1 rfl (by omega))]
    exact ⟨_, _, rfl, Or.inl ⟨_, rfl, sf_same, zR_0 (by omega) h 0⟩⟩
theorem ag_holder (h : zR c k σ) (p1 : Int32) : Ag_holder (zR (c + 60)) k σ p1 := by
  obtain ⟨V, w, hw, hwl, hc, hm, ht⟩ := zR_V h
  have hA := hw.1.2.1
  have hK := hw.2.2.2.1
  have e5 : os_a σ 1 (5 : Int32).toNatClampNeg = nI V.2.1.length := by rw [tc5]; exact hm.2.1.1
  obtain ⟨o1, o2⟩ := c_ord (k := k) hc hK p1
  unfold Ag_holder fX9_holder fX9_asked fX8_holder xX8_holder
  rw [gx_chk_t gi5, e5]
  rcases m_len (p := p1) (n := V.2.1.length) (by omega) with ⟨a, ha, rfl, hi⟩ | ⟨hn, hi⟩
  · obtain ⟨e, he⟩ := lt_get ha
    have k1 := (hc.2.1.2.2 a e he).1
    have k2 := (hm.2.1.2 a e he).1
    have k3 : os_a k.1.2.2.1 0 (nI a).toNatClampNeg = nI e.1 := by rw [nI_clamp (by omega)]; exact k1
    have x2 : fX9_order (os_sf σ 0 0) (nI a) (0 : Int32) = some (nI e.1) := (m_order (K := V.2.1) (w := 0) (c := 0) (by omega) (by omega)).trans (congrArg some k2)
    rw [hi, gx_b_some, if_neg one0, th_v, if_pos le00, x2, gx_b_some, gx_b_some, o1 ⟨a, ha, rfl⟩, gx_b_some, gx_chk_t (nI_in (by omega) (by decide)), k3]
    exact ⟨_, _, rfl, Or.inl ⟨_, rfl, sf_same, zR_0 (by omega) h 0⟩⟩
  · obtain ⟨q1, q2⟩ := o2 hn
    rw [hi, gx_b_some, if_pos rfl, th_v, if_neg le10, gx_b_some, q1, q2, or_none]
    exact ⟨_, _, rfl, Or.inr ⟨_, rfl, sf_same, zR_0 (by omega) h 1⟩⟩
theorem ag_target (h : zR c k σ) (p1 : Int32) : Ag_target (zR (c + 60)) k σ p1 := by
  obtain ⟨V, w, hw, hwl, hc, hm, ht⟩ := zR_V h
  have hA := hw.1.2.1
  have hK := hw.2.2.2.1
  have e5 : os_a σ 1 (5 : Int32).toNatClampNeg = nI V.2.1.length := by rw [tc5]; exact hm.2.1.1
  obtain ⟨o1, o2⟩ := c_ord (k := k) hc hK p1
  unfold Ag_target fX9_target fX9_asked fX8_target xX8_target
  rw [gx_chk_t gi5, e5]
  rcases m_len (p := p1) (n := V.2.1.length) (by omega) with ⟨a, ha, rfl, hi⟩ | ⟨hn, hi⟩
  · obtain ⟨e, he⟩ := lt_get ha
    have k1 := (hc.2.1.2.2 a e he).2.1
    have k2 := (hm.2.1.2 a e he).2.1
    have k3 : os_a k.1.2.2.1 1 (nI a).toNatClampNeg = nI e.2.1 := by rw [nI_clamp (by omega)]; exact k1
    have x2 : fX9_order (os_sf σ 0 0) (nI a) (1 : Int32) = some (nI e.2.1) := (m_order (K := V.2.1) (w := 0) (c := 1) (by omega) (by omega)).trans (congrArg some k2)
    rw [hi, gx_b_some, if_neg one0, th_v, if_pos le00, x2, gx_b_some, gx_b_some, o1 ⟨a, ha, rfl⟩, gx_b_some, gx_chk_t (nI_in (by omega) (by decide)), k3]
    exact ⟨_, _, rfl, Or.inl ⟨_, rfl, sf_same, zR_0 (by omega) h 0⟩⟩
  · obtain ⟨q1, q2⟩ := o2 hn
    rw [hi, gx_b_some, if_pos rfl, th_v, if_neg le10, gx_b_some, q1, q2, or_none]
    exact ⟨_, _, rfl, Or.inr ⟨_, rfl, sf_same, zR_0 (by omega) h 1⟩⟩
theorem ag_severity (h : zR c k σ) (p1 : Int32) : Ag_severity (zR (c + 60)) k σ p1 := by
  obtain ⟨V, w, hw, hwl, hc, hm, ht⟩ := zR_V h
  have hA := hw.1.2.1
  have hK := hw.2.2.2.1
  have e5 : os_a σ 1 (5 : Int32).toNatClampNeg = nI V.2.1.length := by rw [tc5]; exact hm.2.1.1
  obtain ⟨o1, o2⟩ := c_ord (k := k) hc hK p1
  unfold Ag_severity fX9_severity fX9_asked fX8_severity xX8_severity
  rw [gx_chk_t gi5, e5]
  rcases m_len (p := p1) (n := V.2.1.length) (by omega) with ⟨a, ha, rfl, hi⟩ | ⟨hn, hi⟩
  · obtain ⟨e, he⟩ := lt_get ha
    have k1 := (hc.2.1.2.2 a e he).2.2
    have k2 := (hm.2.1.2 a e he).2.2.1
    have k3 : os_a k.1.2.2.1 2 (nI a).toNatClampNeg = nI e.2.2 := by rw [nI_clamp (by omega)]; exact k1
    have x2 : fX9_order (os_sf σ 0 0) (nI a) (2 : Int32) = some (nI e.2.2) := (m_order (K := V.2.1) (w := 0) (c := 2) (by omega) (by omega)).trans (congrArg some k2)
    rw [hi, gx_b_some, if_neg one0, th_v, if_pos le00, x2, gx_b_some, gx_b_some, o1 ⟨a, ha, rfl⟩, gx_b_some, gx_chk_t (nI_in (by omega) (by decide)), k3]
    exact ⟨_, _, rfl, Or.inl ⟨_, rfl, sf_same, zR_0 (by omega) h 0⟩⟩
  · obtain ⟨q1, q2⟩ := o2 hn
    rw [hi, gx_b_some, if_pos rfl, th_v, if_neg le10, gx_b_some, q1, q2, or_none]
    exact ⟨_, _, rfl, Or.inr ⟨_, rfl, sf_same, zR_0 (by omega) h 1⟩⟩
theorem ag_meaning (h : zR c k σ) (p1 p2 : Int32) : Ag_meaning (zR (c + 60)) k σ p1 p2 := by
  obtain ⟨V, w, hw, hwl, hc, hm, ht⟩ := zR_V h
  have hA := hw.1.2.1
  have hB := hw.2.2.2.2.2.2
  have hB20 := hB.1
  obtain ⟨C, hp, gl, ga⟩ := hc.2.2.1
  have hlen := hp.length_eq
  unfold Ag_meaning fX9_meaning fX8_meaning xX8_meaning fX0_lookUp
  by_cases hs : isL p1 ∧ isL p2
  rotate_left
  · rw [isS_f hs, gx_b_some, if_pos rfl, th_v, if_neg le10]
    refine ⟨_, _, rfl, Or.inr (Or.inl ⟨k, ?_, sf_same, zR_0 (by omega) h 1⟩)⟩
    by_cases h1 : isL p1
    · rw [isL_t h1, gx_b_some, if_neg one0, isL_f (fun q => hs ⟨h1, q⟩), gx_b_some, if_pos rfl, gx_b_some, if_neg (show ¬ (0 : Int32) ≤ -2 by decide), x_throw]; rfl
    · rw [isL_f h1, gx_b_some, if_pos rfl, gx_b_some, if_neg (show ¬ (0 : Int32) ≤ -2 by decide), x_throw]; rfl
  rw [isS_t hs.1 hs.2, gx_b_some, if_neg one0, isL_t hs.1, gx_b_some, if_neg one0, isL_t hs.2, gx_b_some, if_neg one0]
  obtain ⟨⟨a, a1, a2, rfl⟩, ⟨b, b1', b2, rfl⟩⟩ := hs
  rcases both_find (τ := k.1.2.2.2) hB hm.2.2.1 hp gl ga a1 a2 b1' b2 with ⟨i, j, e, q1, q2, q3, q4, q5⟩ | ⟨q1, q2, q3⟩
  rotate_left
  · rw [q3, gx_b_some, if_pos rfl, th_v, if_neg le20]
    refine ⟨_, _, rfl, Or.inr (Or.inr ⟨k, ?_, sf_same, zR_0 (by omega) h 2⟩)⟩
    rw [q2, gx_b_some, if_pos rfl, gx_b_some, if_neg (show ¬ (0 : Int32) ≤ -5 by decide), x_throw]; rfl
  have hi := get_lt q1
  have hj := get_lt q2
  obtain ⟨y1, y2, y3⟩ := hB.2.2 e (List.mem_of_getElem? q2)
  have q5' : fX9_placeOf (os_sf σ 0 0) (nI a) (nI b) = some (nI j) := by
    rcases m_place (σ := os_sf σ 0 0) hB hm.2.2.1 a1 a2 b1' b2 with ⟨j', e', r1, r2, r3⟩ | ⟨r1, r2⟩
    · have he : e' = e := key_one hB (List.mem_of_getElem? r1) (List.mem_of_getElem? q2) (r2.trans q3.symm)
      have hn := List.pairwise_iff_getElem.mp hB.2.1
      subst he
      obtain ⟨l1, l2⟩ := List.getElem?_eq_some_iff.mp r1
      obtain ⟨l3, l4⟩ := List.getElem?_eq_some_iff.mp q2
      rcases Nat.lt_trichotomy j' j with z | z | z
      · have := hn j' j (by rw [List.length_map]; exact l1) (by rw [List.length_map]; exact l3) z
        rw [List.getElem_map, List.getElem_map, l2, l4] at this
        exact absurd rfl this
      · rw [r3, z]
      · have := hn j j' (by rw [List.length_map]; exact l3) (by rw [List.length_map]; exact l1) z
        rw [List.getElem_map, List.getElem_map, l2, l4] at this
        exact absurd rfl this
    · exact absurd q3 (r1 e (List.mem_of_getElem? q2))
  have x1 : nI (91 + 2 * j) + (1 : Int32) = nI (91 + 2 * j + 1) := nI_1 _
  have ej : (nI (91 + 2 * j + 1)).toNatClampNeg = 91 + 2 * j + 1 := nI_clamp (by omega)
  rw [q5, gx_b_some, if_neg (n_m1 (by omega)), th_v, if_pos le00, q5', gx_b_some, n_off2, x1, gx_chk_t (nI_in (by omega) (by decide)), ej, show os_a (os_sf σ 0 0) 1 (91 + 2 * j + 1) = nI e.2 from (hm.2.2.1.2 j e q2).2]
  refine ⟨_, _, rfl, Or.inl ⟨?_, sf_same, zR_0 (by omega) h 0⟩⟩
  rw [q4, gx_b_some, if_neg (n_m1 (by omega)), gx_chk_t (nI_in (by omega) (by decide)), nI_clamp (by omega), show os_a k.1.2.2.2 1 i = nI e.2 from (ga i e q1).2, gx_b_some, if_pos (nI_pos' (by omega))]
theorem ag_flagsWith (h : zR c k σ) (p1 : Int32) : Ag_flagsWith (zR (c + 60)) k σ p1 := by
  obtain ⟨V, w, hw, hwl, hc, hm, ht⟩ := zR_V h
  have hA := hw.1.2.1
  have hB := hw.2.2.2.2.2.2
  have hB20 := hB.1
  obtain ⟨C, hp, gl, ga⟩ := hc.2.2.1
  unfold Ag_flagsWith fX9_flagsWith fX8_flagsWith xX8_flagsWith
  rcases rng p1 (b := 0) (c := 99) (by decide) (by decide) with ⟨v, v1, v2, rfl⟩ | ⟨hx, hy⟩
  · have e3 : fX9_in (nI v) (0 : Int32) (99 : Int32) = some 1 := m_in_t (b := 0) (c := 99) v1 v2 (by decide)
    have n3 : ¬ nI v < 0 := nI_pos (by omega)
    have n4 : nI v ≤ (99 : Int32) := (nI_leI (b := 99) (by omega) (by decide)).mpr v2
    have e4 : fX9_flagsWith_23 2000 (os_sf σ 0 0) (nI v) (0 : Int32) (0 : Int32) = some (nI (0 + (V.2.2.1.drop 0).countP (fun e => decide (e.2 = v))), os_sf σ 0 0) := m_fw23 (σ := os_sf σ 0 0) hB hm.2.2.1 sf_same (by omega) V.2.2.1.length 0 0 2000 (by omega) (by omega)
    rw [e3, gx_b_some, if_neg one0, e4, if_neg n3, if_pos n4, c_cm (wB_perm hp hB) gl ga (by omega), gx_b_some, hp.countP_eq, Nat.zero_add, List.drop_zero]
    exact ⟨_, _, rfl, Or.inl ⟨rfl, sf_same, zR_0 (by omega) h 0⟩⟩
  · have e3 : fX9_in p1 (0 : Int32) (99 : Int32) = some 0 := m_in_f (b := 0) (c := 99) (by decide) (by decide) hx
    have e6 : os_a (os_sf σ 0 1) 1 (6 : Int32).toNatClampNeg = nI V.2.2.1.length := by rw [tc6]; exact hm.2.2.1.1
    have e4 : fX9_flagsWith_23 2000 (os_sf σ 0 1) p1 (0 : Int32) (0 : Int32) = some (0, os_sf σ 0 1) := by
      rw [fX9_flagsWith_23_s, gx_chk_t gi6, e6, th_v, if_neg one0, ite_self]
    rw [e3, gx_b_some, if_pos rfl, e4]
    refine ⟨_, _, rfl, Or.inr ⟨k, ?_, sf_same, zR_0 (by omega) h 1⟩⟩
    rcases hy with hy | ⟨hy, hz⟩
    · rw [if_pos (show p1 < 0 from hy)]
    · rw [if_neg (show ¬ p1 < 0 from hy), if_neg (show ¬ p1 ≤ 99 from hz)]
theorem ag_officerByRank (h : zR c k σ) (p1 : Int32) : Ag_officerByRank (zR (c + 60)) k σ p1 := by
  obtain ⟨V, w, hw, hwl, hc, hm, ht⟩ := zR_V h
  have hA := hw.1.2.1
  unfold Ag_officerByRank fX9_officerByRank fX8_officerByRank xX8_officerByRank
  rw [c_atp hw.1 hw.2.1 hc.1 p1, gx_b_some, gx_b_some, show fX9_officerByRank_7 2000 (os_sf σ 0 0) p1 (0 : Int32) = _ from m_obr7 (σ := os_sf σ 0 0) hw.1 hw.2.1 hm.1 p1 V.1.1 0 2000 (by omega) (by omega)]
  cases e : atp V.1.1 V.1.2.1 V.1.2.2.1 V.1.2.2.2.2 p1 0 V.1.1 with
  | none =>
    rw [show pI none = -1 from rfl, if_pos rfl, if_pos rfl]
    exact ⟨_, _, rfl, Or.inr ⟨_, rfl, sf_same, zR_0 (by omega) (zR_0 (Nat.le_refl _) h 0) 1⟩⟩
  | some q =>
    have hq := atp_lt (A := V.1.1) (R := V.1.2.1) (L := V.1.2.2.1) (P := V.1.2.2.2.2) p1 V.1.1 0 q e
    rw [if_neg (pI_m1 rfl (by omega))]
    exact ⟨_, _, rfl, Or.inl ⟨rfl, sf_same, zR_0 (by omega) h 0⟩⟩
theorem c_cons2 (hw : wO V 0) (hc : zN V w k.1) : ∀ (d i n : Nat), i + d = 12 → d < n → fX8_isConsistent_2 k n (nI i) = some 1 := by
  intro d
  induction d with
  | zero =>
    intro i n hi hn
    obtain ⟨m, rfl⟩ : ∃ m, n = m + 1 := ⟨n - 1, by omega⟩
    rw [fX8_isConsistent_2, if_pos (show (12 : Int32) ≤ nI i from (nI_leI (a := 12) (by decide) (by omega)).mpr (by omega))]
  | succ d ih =>
    intro i n hi hn
    obtain ⟨m, rfl⟩ : ∃ m, n = m + 1 := ⟨n - 1, by omega⟩
    rw [fX8_isConsistent_2, if_neg (show ¬ (12 : Int32) ≤ nI i from fun q => by have := (nI_leI (a := 12) (by decide) (by omega)).mp q; omega), nI_1, ih (i + 1) m (by omega) (by omega)]
    cases e : hv V.1.2.2.2.2 i with
    | true => rw [c_serves_t hw.1 hc.1 e, gx_b_some, if_neg one0, c_ways hw.1 hc.1 e, gx_b_some, if_neg one0]
    | false =>
      rw [c_serves_f hw.1 hc.1 (fun ⟨o, h1, h2⟩ => by
        have ho := hv_lt hw.1 h2
        have hA := hw.1.2.1
        rw [(nI_eq (by omega) (by omega)).mp h1, h2] at e
        cases e), gx_b_some, if_pos rfl]
theorem ag_isConsistent (h : zR c k σ) : Ag_isConsistent (zR (c + 60)) k σ := by
  obtain ⟨V, w, hw, hwl, hc, hm, ht⟩ := zR_V h
  have hA := hw.1.2.1
  exact ⟨1, os_sf σ 0 0, rfl, c_cons2 hw hc 12 0 2000 (by omega) (by omega), zR_0 (by omega) h 0⟩
theorem ag_errorPosition (h : zR c k σ) : Ag_errorPosition (zR (c + 60)) k σ := by
  have h0 := h
  obtain ⟨V, S, Hs, a1, a2, a3, a4, a5, a6, a7, a8, a9, a10, a11, a12⟩ := h
  have e1 : os_f (os_sf σ 0 0) 12 = os_f k.2.2.2.2.2.2.2 7 := (sf_k (by decide)).trans a11.symm
  unfold Ag_errorPosition fX9_errorPosition fX8_errorPosition xX8_errorPosition
  rw [e1]
  by_cases c9 : os_f k.2.2.2.2.2.2.2 7 = -1
  · rw [if_pos c9, if_pos c9, if_pos c9]
    exact ⟨_, _, rfl, Or.inr ⟨_, rfl, sf_same, zR_0 (by omega) (zR_0 (Nat.le_refl _) h0 0) 1⟩⟩
  · rw [if_neg c9, if_neg c9]
    exact ⟨_, _, rfl, Or.inl ⟨rfl, sf_same, zR_0 (by omega) h0 0⟩⟩
theorem ag_failedCommand (h : zR c k σ) : Ag_failedCommand (zR (c + 60)) k σ := by
  have h0 := h
  obtain ⟨V, S, Hs, a1, a2, a3, a4, a5, a6, a7, a8, a9, a10, a11, a12⟩ := h
  have e1 : os_f (os_sf σ 0 0) 13 = os_f k.2.2.2.2.2.2.2 8 := (sf_k (by decide)).trans a12.symm
  unfold Ag_failedCommand fX9_failedCommand fX8_failedCommand xX8_failedCommand
  rw [e1]
  by_cases c9 : os_f k.2.2.2.2.2.2.2 8 = -1
  · rw [if_pos c9, if_pos c9, if_pos c9]
    exact ⟨_, _, rfl, Or.inr ⟨_, rfl, sf_same, zR_0 (by omega) (zR_0 (Nat.le_refl _) h0 0) 1⟩⟩
  · rw [if_neg c9, if_neg c9]
    exact ⟨_, _, rfl, Or.inl ⟨rfl, sf_same, zR_0 (by omega) h0 0⟩⟩
end Ask
