/-! the class alone: what it answers, by the mathematical value of its navy -/
def kq (V : AN) (k : CS) : Prop := (∃ w, w ≤ V.2.1.length ∧ zN V w k.1) ∧ wO V 0
theorem q_bn {α β : Type} {f : α → Option β} : gx_b (none : Option α) f = none := rfl
/-- every order stands for an officer under its holder -/
def wE (V : AN) : Prop := ∀ e ∈ V.2.1, 1 ≤ e.2.1
section Q9
variable {V : AN} {k : CS} {w : Nat}
theorem c_trial (hw : wO V 0) (hc : zN V w k.1) {o s : Nat} (hsA : s < V.1.1) (e : o ∈ ch V.1.2.2.2.2 s) : ∀ (d g n : Nat), lea V.1.2.2.1 o 100 s (ch V.1.2.2.2.2 s) + d = g → g ≤ 100 → d < n → fX8_greatestSeverityByTrial_19 n k (nI o) (nI s) (nI g) = some (nI (lea V.1.2.2.1 o 100 s (ch V.1.2.2.2.2 s)), k) := by
  have hL : ∀ o, o < V.1.1 → V.1.2.2.1 o ≤ 100 := fun o ho => (hw.2.1 o ho).1
  have hA := hw.1.2.1
  have hcx := ch_cX hw.1 s
  intro d
  induction d with
  | zero =>
    intro g n hg hg1 hn
    obtain ⟨m, rfl⟩ : ∃ m, n = m + 1 := ⟨n - 1, by omega⟩
    have hf := (fre_none V.1.2.2.1 (t := o) (s := g) (ch V.1.2.2.2.2 s) s 100 hg1).mp (by omega)
    rw [fX8_greatestSeverityByTrial_19]
    by_cases c0 : nI g ≤ 0
    · rw [if_pos c0, show g = lea V.1.2.2.1 o 100 s (ch V.1.2.2.2.2 s) by omega]
    · rw [if_neg c0, c_first hw.1 hL hc.1 hg1 e hsA, gx_b_some, hf, show pI none = -1 from rfl, if_pos rfl, show g = lea V.1.2.2.1 o 100 s (ch V.1.2.2.2.2 s) by omega]
  | succ d ih =>
    intro g n hg hg1 hn
    obtain ⟨m, rfl⟩ : ∃ m, n = m + 1 := ⟨n - 1, by omega⟩
    have hf : fre V.1.2.2.1 o g none s (ch V.1.2.2.2.2 s) ≠ none := fun q => by
      have := (fre_none V.1.2.2.1 (t := o) (s := g) (ch V.1.2.2.2.2 s) s 100 hg1).mpr q
      omega
    rw [fX8_greatestSeverityByTrial_19, if_neg (nI_nle (by omega) (by omega)), c_first hw.1 hL hc.1 hg1 e hsA, gx_b_some]
    cases e9 : fre V.1.2.2.1 o g none s (ch V.1.2.2.2.2 s) with
    | none => exact absurd e9 hf
    | some q =>
      have hq := fre_lt V.1.2.2.1 (A := V.1.1) _ s none hsA (fun q hq => (ch_mem hw.1 hq).1) (fun q h9 => by cases h9) q e9
      obtain ⟨g', rfl⟩ : ∃ g', g = g' + 1 := ⟨g - 1, by omega⟩
      rw [if_neg (pI_m1 rfl (by omega)), n_pm]
      exact ih g' m (by omega) (by omega) (by omega)

theorem q_rank_t (h : kq V k) {o : Nat} (ho : hv V.1.2.2.2.2 o = true) : fL_rank k (nI o) = some (nI (V.1.2.1 o), k) := by
  obtain ⟨⟨w, hwl, hc⟩, hw⟩ := h
  have hA := hw.1.2.1
  have hoA := hv_lt hw.1 ho
  unfold fL_rank fX8_rank
  rw [c_req_t hw hc ho, gx_b_some, gx_chk_t (nI_in (by omega) (by decide)), c_rnk hA hc.1 hoA]
  rfl
theorem q_rank_f (h : kq V k) {p : Int32} (hn : ¬ ∃ o, p = nI o ∧ hv V.1.2.2.2.2 o = true) : fL_rank k p = some (-77, k) := by
  obtain ⟨⟨w, hwl, hc⟩, hw⟩ := h
  have hA := hw.1.2.1
  obtain ⟨q1, q2⟩ := c_req_f hw hc hn
  unfold fL_rank fX8_rank xX8_rank
  rw [q1, q2]
  rfl
theorem q_loyalty_t (h : kq V k) {o : Nat} (ho : hv V.1.2.2.2.2 o = true) : fL_loyalty k (nI o) = some (nI (V.1.2.2.1 o), k) := by
  obtain ⟨⟨w, hwl, hc⟩, hw⟩ := h
  have hA := hw.1.2.1
  have hoA := hv_lt hw.1 ho
  unfold fL_loyalty fX8_loyalty
  rw [c_req_t hw hc ho, gx_b_some, gx_chk_t (nI_in (by omega) (by decide)), c_loy hA hc.1 hoA]
  rfl
theorem q_loyalty_f (h : kq V k) {p : Int32} (hn : ¬ ∃ o, p = nI o ∧ hv V.1.2.2.2.2 o = true) : fL_loyalty k p = some (-77, k) := by
  obtain ⟨⟨w, hwl, hc⟩, hw⟩ := h
  have hA := hw.1.2.1
  obtain ⟨q1, q2⟩ := c_req_f hw hc hn
  unfold fL_loyalty fX8_loyalty xX8_loyalty
  rw [q1, q2]
  rfl
theorem q_refusals_t (h : kq V k) {o : Nat} (ho : hv V.1.2.2.2.2 o = true) : fL_refusals k (nI o) = some (nI (V.1.2.2.2.1 o), k) := by
  obtain ⟨⟨w, hwl, hc⟩, hw⟩ := h
  have hA := hw.1.2.1
  have hoA := hv_lt hw.1 ho
  unfold fL_refusals fX8_refusals
  rw [c_req_t hw hc ho, gx_b_some, gx_chk_t (nI_in (by omega) (by decide)), c_ref hA hc.1 hoA]
  rfl
theorem q_refusals_f (h : kq V k) {p : Int32} (hn : ¬ ∃ o, p = nI o ∧ hv V.1.2.2.2.2 o = true) : fL_refusals k p = some (-77, k) := by
  obtain ⟨⟨w, hwl, hc⟩, hw⟩ := h
  have hA := hw.1.2.1
  obtain ⟨q1, q2⟩ := c_req_f hw hc hn
  unfold fL_refusals fX8_refusals xX8_refusals
  rw [q1, q2]
  rfl
theorem q_subordinates_t (h : kq V k) {o : Nat} (ho : hv V.1.2.2.2.2 o = true) : fL_subordinates k (nI o) = some (nI (sr (fun q => i1 (V.1.2.2.2.2 q = some o)) 0 V.1.1), k) := by
  obtain ⟨⟨w, hwl, hc⟩, hw⟩ := h
  have hA := hw.1.2.1
  have hoA := hv_lt hw.1 ho
  unfold fL_subordinates fX8_subordinates
  rw [c_req_t hw hc ho, gx_b_some, c_csub hw.1 hc.1 (by omega), gx_b_some]
  rfl
theorem q_subordinates_f (h : kq V k) {p : Int32} (hn : ¬ ∃ o, p = nI o ∧ hv V.1.2.2.2.2 o = true) : fL_subordinates k p = some (-77, k) := by
  obtain ⟨⟨w, hwl, hc⟩, hw⟩ := h
  have hA := hw.1.2.1
  obtain ⟨q1, q2⟩ := c_req_f hw hc hn
  unfold fL_subordinates fX8_subordinates xX8_subordinates
  rw [q1, q2]
  rfl
theorem q_depth_t (h : kq V k) {o : Nat} (ho : hv V.1.2.2.2.2 o = true) : fL_depth k (nI o) = some (nI (ch V.1.2.2.2.2 o).length, k) := by
  obtain ⟨⟨w, hwl, hc⟩, hw⟩ := h
  have hA := hw.1.2.1
  have hoA := hv_lt hw.1 ho
  unfold fL_depth fX8_depth
  rw [c_req_t hw hc ho, gx_b_some, c_climb hw.1 hc.1 hoA, gx_b_some]
  rfl
theorem q_depth_f (h : kq V k) {p : Int32} (hn : ¬ ∃ o, p = nI o ∧ hv V.1.2.2.2.2 o = true) : fL_depth k p = some (-77, k) := by
  obtain ⟨⟨w, hwl, hc⟩, hw⟩ := h
  have hA := hw.1.2.1
  obtain ⟨q1, q2⟩ := c_req_f hw hc hn
  unfold fL_depth fX8_depth xX8_depth
  rw [q1, q2]
  rfl
theorem q_depthFromTop_t (h : kq V k) {o : Nat} (ho : hv V.1.2.2.2.2 o = true) : fL_depthFromTop k (nI o) = some (nI (ch V.1.2.2.2.2 o).length, k) := by
  obtain ⟨⟨w, hwl, hc⟩, hw⟩ := h
  have hA := hw.1.2.1
  have hoA := hv_lt hw.1 ho
  unfold fL_depthFromTop fX8_depthFromTop
  rw [c_req_t hw hc ho, gx_b_some, c_sea hw.1 hc.1 ho, gx_b_some]
  rfl
theorem q_depthFromTop_f (h : kq V k) {p : Int32} (hn : ¬ ∃ o, p = nI o ∧ hv V.1.2.2.2.2 o = true) : fL_depthFromTop k p = some (-77, k) := by
  obtain ⟨⟨w, hwl, hc⟩, hw⟩ := h
  have hA := hw.1.2.1
  obtain ⟨q1, q2⟩ := c_req_f hw hc hn
  unfold fL_depthFromTop fX8_depthFromTop xX8_depthFromTop
  rw [q1, q2]
  rfl
theorem q_commandSize_t (h : kq V k) {o : Nat} (ho : hv V.1.2.2.2.2 o = true) : fL_commandSize k (nI o) = some (nI (siz V.1.1 V.1.2.2.2.2 o), k) := by
  obtain ⟨⟨w, hwl, hc⟩, hw⟩ := h
  have hA := hw.1.2.1
  have hoA := hv_lt hw.1 ho
  unfold fL_commandSize fX8_commandSize
  rw [c_req_t hw hc ho, gx_b_some, c_size hw.1 hc.1 hoA, gx_b_some]
  rfl
theorem q_commandSize_f (h : kq V k) {p : Int32} (hn : ¬ ∃ o, p = nI o ∧ hv V.1.2.2.2.2 o = true) : fL_commandSize k p = some (-77, k) := by
  obtain ⟨⟨w, hwl, hc⟩, hw⟩ := h
  have hA := hw.1.2.1
  obtain ⟨q1, q2⟩ := c_req_f hw hc hn
  unfold fL_commandSize fX8_commandSize xX8_commandSize
  rw [q1, q2]
  rfl
theorem q_commandSizeByCounting_t (h : kq V k) {o : Nat} (ho : hv V.1.2.2.2.2 o = true) : fL_commandSizeByCounting k (nI o) = some (nI (siz V.1.1 V.1.2.2.2.2 o), k) := by
  obtain ⟨⟨w, hwl, hc⟩, hw⟩ := h
  have hA := hw.1.2.1
  have hoA := hv_lt hw.1 ho
  unfold fL_commandSizeByCounting fX8_commandSizeByCounting
  rw [c_req_t hw hc ho, gx_b_some, c_ccmd hw.1 hc.1 (by omega), gx_b_some]
  rfl
theorem q_commandSizeByCounting_f (h : kq V k) {p : Int32} (hn : ¬ ∃ o, p = nI o ∧ hv V.1.2.2.2.2 o = true) : fL_commandSizeByCounting k p = some (-77, k) := by
  obtain ⟨⟨w, hwl, hc⟩, hw⟩ := h
  have hA := hw.1.2.1
  obtain ⟨q1, q2⟩ := c_req_f hw hc hn
  unfold fL_commandSizeByCounting fX8_commandSizeByCounting xX8_commandSizeByCounting
  rw [q1, q2]
  rfl
theorem q_superior_t (h : kq V k) {o : Nat} (ho : hv V.1.2.2.2.2 o = true) (h0 : o ≠ 0) : fL_superior k (nI o) = some (pI (V.1.2.2.2.2 o), k) := by
  obtain ⟨⟨w, hwl, hc⟩, hw⟩ := h
  have hA := hw.1.2.1
  have hoA := hv_lt hw.1 ho
  unfold fL_superior fX8_superior
  rw [c_req_t hw hc ho, gx_b_some, if_neg (show ¬ nI o = (0 : Int32) from fun q => h0 ((nI_eq (b := 0) (by omega) (by decide)).mp q)), gx_chk_t (nI_in (by omega) (by decide)), c_sup hA hc.1 hoA]
  rfl
theorem q_superior_0 (h : kq V k) : fL_superior k (nI 0) = some (-75, k) := by
  obtain ⟨⟨w, hwl, hc⟩, hw⟩ := h
  have hA := hw.1.2.1
  unfold fL_superior fX8_superior xX8_superior
  rw [c_req_t hw hc (hv_0 _), gx_b_some, if_pos (show nI 0 = (0 : Int32) from rfl), or_none, or_some, if_pos (show nI 0 = (0 : Int32) from rfl)]
  rfl
theorem q_superior_f (h : kq V k) {p : Int32} (hn : ¬ ∃ o, p = nI o ∧ hv V.1.2.2.2.2 o = true) : fL_superior k p = some (-77, k) := by
  obtain ⟨⟨w, hwl, hc⟩, hw⟩ := h
  have hA := hw.1.2.1
  obtain ⟨q1, q2⟩ := c_req_f hw hc hn
  unfold fL_superior fX8_superior xX8_superior
  rw [q1, q2]
  rfl
theorem q_isAbove_t (h : kq V k) {o s : Nat} (ho : hv V.1.2.2.2.2 o = true) (hs : hv V.1.2.2.2.2 s = true) : fL_isAbove k (nI o) (nI s) = some (if o ∈ ch V.1.2.2.2.2 s then 1 else 0, k) := by
  obtain ⟨⟨w, hwl, hc⟩, hw⟩ := h
  have hA := hw.1.2.1
  have hoA := hv_lt hw.1 ho
  have hsA := hv_lt hw.1 hs
  unfold fL_isAbove fX8_isAbove
  rw [c_req_t hw hc ho, gx_b_some, c_req_t hw hc hs, gx_b_some, c_over hw.1 hc.1 (by omega) hsA, gx_b_some]
  by_cases e : o ∈ ch V.1.2.2.2.2 s
  · rw [ab_t e, gx_chk_t (Or.inr rfl), if_pos e]
    rfl
  · rw [ab_f e, gx_chk_t (Or.inl rfl), if_neg e]
    rfl
theorem q_commonSuperior_t (h : kq V k) {o s : Nat} (ho : hv V.1.2.2.2.2 o = true) (hs : hv V.1.2.2.2.2 s = true) : fL_commonSuperior k (nI o) (nI s) = some (nI (low V.1.2.2.2.2 s o (ch V.1.2.2.2.2 o)), k) := by
  obtain ⟨⟨w, hwl, hc⟩, hw⟩ := h
  have hA := hw.1.2.1
  unfold fL_commonSuperior fX8_commonSuperior
  rw [c_req_t hw hc ho, gx_b_some, c_req_t hw hc hs, gx_b_some, c_lowest hw.1 hc.1 ho hs, gx_b_some]
  rfl
theorem q_hoursFor_t (h : kq V k) {o s : Nat} (ho : hv V.1.2.2.2.2 o = true) (hs : hv V.1.2.2.2.2 s = true) (e : o ∈ ch V.1.2.2.2.2 s) : fL_hoursFor k (nI o) (nI s) = some (nI (ch V.1.2.2.2.2 s).length - nI (ch V.1.2.2.2.2 o).length, k) := by
  obtain ⟨⟨w, hwl, hc⟩, hw⟩ := h
  have hA := hw.1.2.1
  have hoA := hv_lt hw.1 ho
  have hsA := hv_lt hw.1 hs
  have hL : ∀ o, o < V.1.1 → V.1.2.2.1 o ≤ 100 := fun o ho => (hw.2.1 o ho).1
  unfold fL_hoursFor fX8_hoursFor
  rw [c_req_t hw hc ho, gx_b_some, c_req_t hw hc hs, gx_b_some, c_way_t hw hc (by omega) hsA e, gx_b_some, c_climb hw.1 hc.1 hsA, gx_b_some, c_climb hw.1 hc.1 hoA, gx_b_some]
  rfl
theorem q_hoursFor_n (h : kq V k) {o s : Nat} (ho : hv V.1.2.2.2.2 o = true) (hs : hv V.1.2.2.2.2 s = true) (e : o ∉ ch V.1.2.2.2.2 s) : fL_hoursFor k (nI o) (nI s) = some (-79, k) := by
  obtain ⟨⟨w, hwl, hc⟩, hw⟩ := h
  have hA := hw.1.2.1
  have hoA := hv_lt hw.1 ho
  have hsA := hv_lt hw.1 hs
  obtain ⟨q1, q2⟩ := c_way_f hw hc (by omega) hsA e
  unfold fL_hoursFor fX8_hoursFor xX8_hoursFor
  rw [c_req_t hw hc ho, gx_b_some, c_req_t hw hc hs, gx_b_some, q1, q_bn, or_none, or_some, c_req_t hw hc hs, or_some, q1, or_none, q2, gx_b_some]
  rfl
theorem q_greatestSeverity_t (h : kq V k) {o s : Nat} (ho : hv V.1.2.2.2.2 o = true) (hs : hv V.1.2.2.2.2 s = true) (e : o ∈ ch V.1.2.2.2.2 s) : fL_greatestSeverity k (nI o) (nI s) = some (nI (lea V.1.2.2.1 o 100 s (ch V.1.2.2.2.2 s)), k) := by
  obtain ⟨⟨w, hwl, hc⟩, hw⟩ := h
  have hA := hw.1.2.1
  have hoA := hv_lt hw.1 ho
  have hsA := hv_lt hw.1 hs
  have hL : ∀ o, o < V.1.1 → V.1.2.2.1 o ≤ 100 := fun o ho => (hw.2.1 o ho).1
  unfold fL_greatestSeverity fX8_greatestSeverity
  rw [c_req_t hw hc ho, gx_b_some, c_req_t hw hc hs, gx_b_some, c_way_t hw hc (by omega) hsA e, gx_b_some, c_least hw.1 hL hc.1 e hsA, gx_b_some]
  rfl
theorem q_greatestSeverity_n (h : kq V k) {o s : Nat} (ho : hv V.1.2.2.2.2 o = true) (hs : hv V.1.2.2.2.2 s = true) (e : o ∉ ch V.1.2.2.2.2 s) : fL_greatestSeverity k (nI o) (nI s) = some (-79, k) := by
  obtain ⟨⟨w, hwl, hc⟩, hw⟩ := h
  have hA := hw.1.2.1
  have hoA := hv_lt hw.1 ho
  have hsA := hv_lt hw.1 hs
  obtain ⟨q1, q2⟩ := c_way_f hw hc (by omega) hsA e
  unfold fL_greatestSeverity fX8_greatestSeverity xX8_greatestSeverity
  rw [c_req_t hw hc ho, gx_b_some, c_req_t hw hc hs, gx_b_some, q1, q_bn, or_none, or_some, c_req_t hw hc hs, or_some, q1, or_none, q2, gx_b_some]
  rfl
theorem q_greatestSeverityByTrial_t (h : kq V k) {o s : Nat} (ho : hv V.1.2.2.2.2 o = true) (hs : hv V.1.2.2.2.2 s = true) (e : o ∈ ch V.1.2.2.2.2 s) : fL_greatestSeverityByTrial k (nI o) (nI s) = some (nI (lea V.1.2.2.1 o 100 s (ch V.1.2.2.2.2 s)), k) := by
  obtain ⟨⟨w, hwl, hc⟩, hw⟩ := h
  have hA := hw.1.2.1
  have hoA := hv_lt hw.1 ho
  have hsA := hv_lt hw.1 hs
  have hL : ∀ o, o < V.1.1 → V.1.2.2.1 o ≤ 100 := fun o ho => (hw.2.1 o ho).1
  unfold fL_greatestSeverityByTrial fX8_greatestSeverityByTrial
  rw [c_req_t hw hc ho, gx_b_some, c_req_t hw hc hs, gx_b_some, c_way_t hw hc (by omega) hsA e, gx_b_some, show fX8_greatestSeverityByTrial_19 2000 k (nI o) (nI s) (100 : Int32) = some (nI (lea V.1.2.2.1 o 100 s (ch V.1.2.2.2.2 s)), k) from c_trial hw hc hsA e (100 - lea V.1.2.2.1 o 100 s (ch V.1.2.2.2.2 s)) 100 2000 (by have := lea_le V.1.2.2.1 (t := o) (ch V.1.2.2.2.2 s) s 100; omega) (by omega) (by omega)]
  rfl
theorem q_greatestSeverityByTrial_n (h : kq V k) {o s : Nat} (ho : hv V.1.2.2.2.2 o = true) (hs : hv V.1.2.2.2.2 s = true) (e : o ∉ ch V.1.2.2.2.2 s) : fL_greatestSeverityByTrial k (nI o) (nI s) = some (-79, k) := by
  obtain ⟨⟨w, hwl, hc⟩, hw⟩ := h
  have hA := hw.1.2.1
  have hoA := hv_lt hw.1 ho
  have hsA := hv_lt hw.1 hs
  obtain ⟨q1, q2⟩ := c_way_f hw hc (by omega) hsA e
  unfold fL_greatestSeverityByTrial fX8_greatestSeverityByTrial xX8_greatestSeverityByTrial
  rw [c_req_t hw hc ho, gx_b_some, c_req_t hw hc hs, gx_b_some, q1, q_bn, or_none, or_some, c_req_t hw hc hs, or_some, q1, or_none, q2, gx_b_some]
  rfl
theorem q_hoursFor_f (h : kq V k) {p p2 : Int32} (hn : ¬ ∃ o, p = nI o ∧ hv V.1.2.2.2.2 o = true) : fL_hoursFor k p p2 = some (-77, k) := by
  obtain ⟨⟨w, hwl, hc⟩, hw⟩ := h
  have hA := hw.1.2.1
  obtain ⟨q1, q2⟩ := c_req_f hw hc hn
  unfold fL_hoursFor fX8_hoursFor xX8_hoursFor
  rw [q1, q2]
  rfl
theorem q_hoursFor_f2 (h : kq V k) {o : Nat} (ho : hv V.1.2.2.2.2 o = true) {p : Int32} (hn : ¬ ∃ o, p = nI o ∧ hv V.1.2.2.2.2 o = true) : fL_hoursFor k (nI o) p = some (-77, k) := by
  obtain ⟨⟨w, hwl, hc⟩, hw⟩ := h
  have hA := hw.1.2.1
  obtain ⟨q1, q2⟩ := c_req_f hw hc hn
  unfold fL_hoursFor fX8_hoursFor xX8_hoursFor
  rw [c_req_t hw hc ho, gx_b_some, or_some, q1, q2]
  rfl
theorem q_firstRefusal_t (h : kq V k) {o s v : Nat} (ho : hv V.1.2.2.2.2 o = true) (hs : hv V.1.2.2.2.2 s = true) (hv2 : v ≤ 100) (e : o ∈ ch V.1.2.2.2.2 s) : fL_firstRefusal k (nI o) (nI s) (nI v) = some (match fre V.1.2.2.1 o v none s (ch V.1.2.2.2.2 s) with | none => -75 | some q => nI q, k) := by
  obtain ⟨⟨w, hwl, hc⟩, hw⟩ := h
  have hA := hw.1.2.1
  have hoA := hv_lt hw.1 ho
  have hsA := hv_lt hw.1 hs
  have hL : ∀ o, o < V.1.1 → V.1.2.2.1 o ≤ 100 := fun o ho => (hw.2.1 o ho).1
  have n3 : ¬ nI v < 0 := nI_pos (by omega)
  have n4 : nI v ≤ (100 : Int32) := (nI_leI (b := 100) (by omega) (by decide)).mpr hv2
  unfold fL_firstRefusal fX8_firstRefusal
  rw [c_req_t hw hc ho, gx_b_some, c_req_t hw hc hs, gx_b_some, if_neg n3, if_pos n4, c_way_t hw hc (show o < 12 by omega) hsA e, gx_b_some, c_first hw.1 hL hc.1 hv2 e hsA, gx_b_some]
  cases e9 : fre V.1.2.2.1 o v none s (ch V.1.2.2.2.2 s) with
  | none =>
    rw [show pI none = -1 from rfl, if_pos rfl, or_none]
    unfold xX8_firstRefusal
    rw [c_req_t hw hc ho, or_some, c_req_t hw hc hs, or_some, if_neg n3, if_pos n4, c_way_t hw hc (show o < 12 by omega) hsA e, or_some, c_first hw.1 hL hc.1 hv2 e hsA, gx_b_some, e9, show pI none = -1 from rfl, if_pos rfl, gx_b_some]
    rfl
  | some q =>
    have hq := fre_lt V.1.2.2.1 (A := V.1.1) _ s none hsA (fun q hq => (ch_mem hw.1 hq).1) (fun q h9 => by cases h9) q e9
    rw [if_neg (pI_m1 rfl (by omega))]
    rfl
theorem q_firstRefusal_n (h : kq V k) {o s v : Nat} (ho : hv V.1.2.2.2.2 o = true) (hs : hv V.1.2.2.2.2 s = true) (hv2 : v ≤ 100) (e : o ∉ ch V.1.2.2.2.2 s) : fL_firstRefusal k (nI o) (nI s) (nI v) = some (-79, k) := by
  obtain ⟨⟨w, hwl, hc⟩, hw⟩ := h
  have hA := hw.1.2.1
  have hoA := hv_lt hw.1 ho
  have hsA := hv_lt hw.1 hs
  have n3 : ¬ nI v < 0 := nI_pos (by omega)
  have n4 : nI v ≤ (100 : Int32) := (nI_leI (b := 100) (by omega) (by decide)).mpr hv2
  obtain ⟨q1, q2⟩ := c_way_f hw hc (show o < 12 by omega) hsA e
  unfold fL_firstRefusal fX8_firstRefusal
  rw [c_req_t hw hc ho, gx_b_some, c_req_t hw hc hs, gx_b_some, if_neg n3, if_pos n4, q1, q_bn, or_none]
  unfold xX8_firstRefusal
  rw [c_req_t hw hc ho, or_some, c_req_t hw hc hs, or_some, if_neg n3, if_pos n4, q1, or_none, q2, gx_b_some]
  rfl
theorem q_holder_t (h : kq V k) {a : Nat} {e : ON} (he : V.2.1[a]? = some e) : fL_holder k (nI a) = some (nI e.1, k) := by
  obtain ⟨⟨w, hwl, hc⟩, hw⟩ := h
  have hA := hw.1.2.1
  have hK := hw.2.2.2.1
  have ha := get_lt he
  obtain ⟨o1, o2⟩ := c_ord (k := k) hc hK (nI a)
  have k3 : os_a k.1.2.2.1 0 (nI a).toNatClampNeg = nI e.1 := by rw [nI_clamp (by omega)]; exact (hc.2.1.2.2 a e he).1
  unfold fL_holder fX8_holder
  rw [o1 ⟨a, ha, rfl⟩, gx_b_some, gx_chk_t (nI_in (by omega) (by decide)), k3]
  rfl
theorem q_target_t (h : kq V k) {a : Nat} {e : ON} (he : V.2.1[a]? = some e) : fL_target k (nI a) = some (nI e.2.1, k) := by
  obtain ⟨⟨w, hwl, hc⟩, hw⟩ := h
  have hA := hw.1.2.1
  have hK := hw.2.2.2.1
  have ha := get_lt he
  obtain ⟨o1, o2⟩ := c_ord (k := k) hc hK (nI a)
  have k3 : os_a k.1.2.2.1 1 (nI a).toNatClampNeg = nI e.2.1 := by rw [nI_clamp (by omega)]; exact (hc.2.1.2.2 a e he).2.1
  unfold fL_target fX8_target
  rw [o1 ⟨a, ha, rfl⟩, gx_b_some, gx_chk_t (nI_in (by omega) (by decide)), k3]
  rfl
theorem q_severity_t (h : kq V k) {a : Nat} {e : ON} (he : V.2.1[a]? = some e) : fL_severity k (nI a) = some (nI e.2.2, k) := by
  obtain ⟨⟨w, hwl, hc⟩, hw⟩ := h
  have hA := hw.1.2.1
  have hK := hw.2.2.2.1
  have ha := get_lt he
  obtain ⟨o1, o2⟩ := c_ord (k := k) hc hK (nI a)
  have k3 : os_a k.1.2.2.1 2 (nI a).toNatClampNeg = nI e.2.2 := by rw [nI_clamp (by omega)]; exact (hc.2.1.2.2 a e he).2.2
  unfold fL_severity fX8_severity
  rw [o1 ⟨a, ha, rfl⟩, gx_b_some, gx_chk_t (nI_in (by omega) (by decide)), k3]
  rfl
theorem q_hour (h : kq V k) : fX8_hour k = some (V.2.2.2.1) := by
  obtain ⟨⟨w, hwl, hc⟩, hw⟩ := h
  have hA := hw.1.2.1
  unfold fX8_hour
  exact congrArg some hc.2.2.2.1
theorem q_appointedCount (h : kq V k) : fX8_appointedCount k = some (nI V.1.1) := by
  obtain ⟨⟨w, hwl, hc⟩, hw⟩ := h
  have hA := hw.1.2.1
  unfold fX8_appointedCount
  exact congrArg some hc.1.1
theorem q_orderCount (h : kq V k) : fX8_orderCount k = some (nI V.2.1.length) := by
  obtain ⟨⟨w, hwl, hc⟩, hw⟩ := h
  have hA := hw.1.2.1
  unfold fX8_orderCount
  exact congrArg some hc.2.1.1
theorem q_executedOrders (h : kq V k) : fX8_executedOrders k = some (nI V.2.2.2.2.1) := by
  obtain ⟨⟨w, hwl, hc⟩, hw⟩ := h
  have hA := hw.1.2.1
  unfold fX8_executedOrders
  exact congrArg some hc.2.2.2.2.1
theorem q_refusedOrders (h : kq V k) : fX8_refusedOrders k = some (nI V.2.2.2.2.2.1) := by
  obtain ⟨⟨w, hwl, hc⟩, hw⟩ := h
  have hA := hw.1.2.1
  unfold fX8_refusedOrders
  exact congrArg some hc.2.2.2.2.2.1
theorem q_lostOrders (h : kq V k) : fX8_lostOrders k = some (nI V.2.2.2.2.2.2) := by
  obtain ⟨⟨w, hwl, hc⟩, hw⟩ := h
  have hA := hw.1.2.1
  unfold fX8_lostOrders
  exact congrArg some hc.2.2.2.2.2.2
theorem q_officerCount (h : kq V k) : fX8_officerCount k = some (nI (sr (fun o => i1 (hv V.1.2.2.2.2 o = true)) 0 V.1.1)) := by
  obtain ⟨⟨w, hwl, hc⟩, hw⟩ := h
  have hA := hw.1.2.1
  unfold fX8_officerCount
  rw [c_cserv hw.1 hc.1, gx_b_some]
theorem q_isInNavy_t (h : kq V k) {o : Nat} (ho : hv V.1.2.2.2.2 o = true) : fX8_isInNavy k (nI o) = some 1 := by
  obtain ⟨⟨w, hwl, hc⟩, hw⟩ := h
  have hA := hw.1.2.1
  unfold fX8_isInNavy
  rw [c_serves_t hw.1 hc.1 ho, gx_b_some, gx_chk_t (Or.inr rfl)]
theorem q_isInNavy_f (h : kq V k) {p : Int32} (hn : ¬ ∃ o, p = nI o ∧ hv V.1.2.2.2.2 o = true) : fX8_isInNavy k p = some 0 := by
  obtain ⟨⟨w, hwl, hc⟩, hw⟩ := h
  have hA := hw.1.2.1
  unfold fX8_isInNavy
  rw [c_serves_f hw.1 hc.1 hn, gx_b_some, gx_chk_t (Or.inl rfl)]
theorem q_greatestDepth (h : kq V k) : fX8_greatestDepth k = some (nI (mxd V.1.2.2.2.2 0 0 V.1.1)) := by
  obtain ⟨⟨w, hwl, hc⟩, hw⟩ := h
  have hA := hw.1.2.1
  unfold fX8_greatestDepth
  rw [c_deepest hw.1 hc.1, gx_b_some]
theorem q_flagCount (h : kq V k) : fX8_flagCount k = some (nI V.2.2.1.length) := by
  obtain ⟨⟨w, hwl, hc⟩, hw⟩ := h
  have hA := hw.1.2.1
  obtain ⟨C, hp, gl, ga⟩ := hc.2.2.1
  unfold fX8_flagCount
  exact congrArg some (gl.trans (congrArg nI hp.length_eq))
theorem q_officerByRank (h : kq V k) (p : Int32) : fL_officerByRank k p = some (match atp V.1.1 V.1.2.1 V.1.2.2.1 V.1.2.2.2.2 p 0 V.1.1 with | none => -75 | some q => nI q, k) := by
  obtain ⟨⟨w, hwl, hc⟩, hw⟩ := h
  have hA := hw.1.2.1
  unfold fL_officerByRank fX8_officerByRank xX8_officerByRank
  rw [c_atp hw.1 hw.2.1 hc.1 p, gx_b_some, gx_b_some]
  cases e9 : atp V.1.1 V.1.2.1 V.1.2.2.1 V.1.2.2.2.2 p 0 V.1.1 with
  | none => rfl
  | some q =>
    have hq := atp_lt p _ _ q e9
    rw [if_neg (pI_m1 rfl (by omega))]
    rfl
end Q9
