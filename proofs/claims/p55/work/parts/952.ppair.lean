/-! isPair -/
section Pair9
variable {V : AN} {k : CS} {aa : gx_AA}
def xv (V : AN) (a b : Nat) : Int32 := if a ∈ ch V.1.2.2.2.2 b then 1 else 0
theorem ok_316 (h : kq V k) {a b : Nat} (ha : hv V.1.2.2.2.2 a = true) (hb : hv V.1.2.2.2.2 b = true) {κ : Nat} (hκ : κ + 1 ≤ 30) {x : Int32} (hx : x = xv V a b) : ∃ κ2, fL_isPair_316 aa (k, κ) (nI a) (nI b) x 1 1 1 = some (1, (k, κ2)) := by
  have hw := h.2.1
  have hA := hw.2.1
  have haA := hv_lt hw ha
  have hbA := hv_lt hw hb
  unfold fL_isPair_316
  dsimp only
  rw [if_neg one0, if_neg one0, if_neg one0]
  by_cases e : a ∈ ch V.1.2.2.2.2 b
  · obtain ⟨e1, e2⟩ := ch_anti hw e
    have hx1 : x = 1 := hx.trans (if_pos e)
    have hx0 : ¬ x = 0 := by rw [hx1]; decide
    rw [if_neg hx0, gx_chk_t hκ, q_isAbove_t h hb ha, gx_b_some]
    dsimp only
    rw [if_neg e1, if_pos rfl, n_eq (by omega) (by omega), if_neg e2, gx_chk_t hκ]
    exact ⟨_, rfl⟩
  · have hx0 : x = 0 := hx.trans (if_neg e)
    rw [if_pos hx0, gx_chk_t (by omega)]
    exact ⟨_, rfl⟩
theorem ok_218 (h : kq V k) {a b sv : Nat} (ha : hv V.1.2.2.2.2 a = true) (hb : hv V.1.2.2.2.2 b = true) (hs : sv ≤ 100) {κ : Nat} (hκ : κ + 5 ≤ 30) {x : Int32} (hx : x = xv V a b) {v8 v9 : Int32}
    (h1 : a ∈ ch V.1.2.2.2.2 b → v8 = nI (lea V.1.2.2.1 a 100 b (ch V.1.2.2.2.2 b)) ∧ v9 = (match fre V.1.2.2.1 a sv none b (ch V.1.2.2.2.2 b) with | none => -75 | some q => nI q)) (h2 : a ∉ ch V.1.2.2.2.2 b → v9 = -79) :
    ∃ κ2, fL_isPair_218 aa (k, κ) (nI a) (nI b) (nI sv) x 1 v8 v9 1 = some (1, (k, κ2)) := by
  have hw := h.2.1
  have hA := hw.2.1
  have haA := hv_lt hw ha
  have hbA := hv_lt hw hb
  have hll := lea_le V.1.2.2.1 (t := a) (ch V.1.2.2.2.2 b) b 100
  by_cases e : a ∈ ch V.1.2.2.2.2 b
  · obtain ⟨e8, e9⟩ := h1 e
    have hx1 : x = 1 := hx.trans (if_pos e)
    have hx0 : ¬ x = 0 := by rw [hx1]; decide
    have fn := fre_none V.1.2.2.1 (t := a) (s := sv) (ch V.1.2.2.2.2 b) b 100 hs
    unfold fL_isPair_218
    dsimp only
    rw [if_neg hx0]
    cases c : fre V.1.2.2.1 a sv none b (ch V.1.2.2.2.2 b) with
    | none =>
      rw [c] at e9
      have hle := fn.mpr c
      rw [e9, if_pos rfl, e8, n_lt (by omega) (by omega), if_neg (by omega), if_pos rfl]
      exact ok_316 h ha hb (by omega) hx
    | some q =>
      rw [c] at e9
      have hlt : lea V.1.2.2.1 a 100 b (ch V.1.2.2.2.2 b) < sv := by
        rcases Nat.lt_or_ge (lea V.1.2.2.1 a 100 b (ch V.1.2.2.2.2 b)) sv with h9 | h9
        · exact h9
        · rw [fn.mp h9] at c; cases c
      obtain ⟨f1, f2, f3⟩ := (fre_some hw _ b none (ch_cX hw b).1 (Or.inr e) q c).resolve_left (by intro h9; cases h9)
      have hq : hv V.1.2.2.2.2 q = true := by
        rcases f2 with f2 | f2
        · rw [f2]; exact hb
        · exact (ch_mem hw f2).2.1
      have hqA := hv_lt hw hq
      have n75 : ¬ nI q = -75 := fun z => by
        have : (nI q).toInt = -75 := by rw [z]; decide
        rw [nI_toInt (by omega)] at this
        omega
      have hLq := (h.2.2.1 q hqA).1
      rw [e9]
      dsimp only
      rw [if_neg n75, e8, n_lt (by omega) (by omega), if_pos hlt, if_neg n75, gx_chk_t (by omega), q_loyalty_t h hq, gx_b_some]
      dsimp only
      rw [n_le (by omega) (by omega), if_neg (by omega), gx_chk_t (by omega), q_isAbove_t h ha hq, gx_b_some]
      dsimp only
      rw [if_pos f3, if_pos rfl, n_eq (by omega) (by omega)]
      by_cases c2 : q = b
      · rw [if_pos c2]
        exact ok_316 h ha hb (by omega) hx
      · rw [if_neg c2, gx_chk_t (by omega), q_isAbove_t h hq hb, gx_b_some]
        dsimp only
        rw [if_pos (f2.resolve_left c2), if_pos rfl]
        exact ok_316 h ha hb (by omega) hx
  · have e9 := h2 e
    have hx0 : x = 0 := hx.trans (if_neg e)
    unfold fL_isPair_218
    dsimp only
    rw [if_pos hx0, e9, if_pos rfl]
    exact ok_316 h ha hb (by omega) hx
theorem ok_106 (h : kq V k) {a b sv : Nat} (ha : hv V.1.2.2.2.2 a = true) (hb : hv V.1.2.2.2.2 b = true) (hs : sv ≤ 100) {κ : Nat} (hκ : κ + 15 ≤ 30) {x : Int32} (hx : x = xv V a b) : ∃ κ2, fL_isPair_106 aa (k, κ) (nI a) (nI b) (nI sv) x 1 = some (1, (k, κ2)) := by
  have hw := h.2.1
  have hA := hw.2.1
  have haA := hv_lt hw ha
  have hbA := hv_lt hw hb
  have hll := lea_le V.1.2.2.1 (t := a) (ch V.1.2.2.2.2 b) b 100
  unfold fL_isPair_106
  dsimp only
  by_cases e : a ∈ ch V.1.2.2.2.2 b
  · have hx1 : x = 1 := hx.trans (if_pos e)
    have hx0 : ¬ x = 0 := by rw [hx1]; decide
    have hL := lea_L (L := V.1.2.2.1) hw e (h.2.2.1 b hbA).1
    have hLb := (h.2.2.1 b hbA).1
    rw [gx_chk_t (by omega), q_hoursFor_t h ha hb e, gx_b_some]
    dsimp only
    rw [gx_chk_t (by omega), q_greatestSeverity_t h ha hb e, gx_b_some]
    dsimp only
    rw [gx_chk_t (by omega), q_firstRefusal_t h ha hb hs e, gx_b_some]
    dsimp only
    rw [if_neg hx0, gx_chk_t (by omega), q_depth_t h hb, gx_b_some]
    dsimp only
    rw [gx_chk_t (by omega), q_depth_t h ha, gx_b_some]
    dsimp only
    rw [if_pos rfl, if_neg (nI_pos (by omega)), gx_chk_t (by omega), q_loyalty_t h hb, gx_b_some]
    dsimp only
    rw [n_lt (by omega) (by omega), if_neg (by omega), gx_chk_t (by omega), q_greatestSeverityByTrial_t h ha hb e, gx_b_some]
    dsimp only
    rw [if_pos rfl]
    exact ok_218 h ha hb hs (by omega) hx (fun _ => ⟨rfl, rfl⟩) (fun q => absurd e q)
  · have hx0 : x = 0 := hx.trans (if_neg e)
    rw [gx_chk_t (by omega), q_hoursFor_n h ha hb e, gx_b_some]
    dsimp only
    rw [gx_chk_t (by omega), q_greatestSeverity_n h ha hb e, gx_b_some]
    dsimp only
    rw [gx_chk_t (by omega), q_firstRefusal_n h ha hb hs e, gx_b_some]
    dsimp only
    rw [if_pos hx0, if_pos rfl, if_pos rfl, gx_chk_t (by omega), q_greatestSeverityByTrial_n h ha hb e, gx_b_some]
    dsimp only
    rw [if_pos rfl]
    exact ok_218 h ha hb hs (by omega) hx (fun q => absurd q e) (fun _ => rfl)
theorem ok_70 (h : kq V k) {a b sv : Nat} (ha : hv V.1.2.2.2.2 a = true) (hb : hv V.1.2.2.2.2 b = true) (hs : sv ≤ 100) {κ : Nat} (hκ : κ + 15 ≤ 30) {x : Int32} (hx : x = xv V a b) : ∃ κ2, fL_isPair_70 aa (k, κ) (nI a) (nI b) (nI sv) (nI (low V.1.2.2.2.2 b a (ch V.1.2.2.2.2 a))) x = some (1, (k, κ2)) := by
  have hw := h.2.1
  have hA := hw.2.1
  have haA := hv_lt hw ha
  have hbA := hv_lt hw hb
  have hla := low_a hw ha hb
  have hlA : low V.1.2.2.2.2 b a (ch V.1.2.2.2.2 a) < V.1.1 := by
    rcases low_mem hw (t := b) _ a (ch_cX hw a).1 with q | q
    · rw [q]; exact haA
    · exact (ch_mem hw q).1
  unfold fL_isPair_70 fL_isPair_80
  rw [n_eq (by omega) (by omega), n_eq (by omega) (by omega), n_eq (by omega) (by omega)]
  by_cases e : a ∈ ch V.1.2.2.2.2 b
  · have hx1 : x = 1 := hx.trans (if_pos e)
    have hx0 : ¬ x = 0 := by rw [hx1]; decide
    rw [if_neg hx0, if_pos (hla.mpr (Or.inl e))]
    exact ok_106 h ha hb hs hκ hx
  · have hx0 : x = 0 := hx.trans (if_neg e)
    rw [if_pos hx0]
    by_cases c : a = b
    · rw [if_pos c, if_pos (hla.mpr (Or.inr c))]
      exact ok_106 h ha hb hs hκ hx
    · rw [if_neg c, if_neg (fun q => (hla.mp q).elim e c)]
      exact ok_106 h ha hb hs hκ hx
theorem p_isPair (h : kq V k) {a b sv : Nat} (ha : hv V.1.2.2.2.2 a = true) (hb : hv V.1.2.2.2.2 b = true) (hs : sv ≤ 100) : ∃ κ2, fL_isPair aa k (nI a) (nI b) (nI sv) = some (1, (k, κ2)) := by
  have hw := h.2.1
  have hA := hw.2.1
  have haA := hv_lt hw ha
  have hbA := hv_lt hw hb
  have x1 := low_mem hw (t := b) _ a (ch_cX hw a).1
  have x2 := low_over hw hb _ a (ch_cX hw a).1 ha
  have hlv : hv V.1.2.2.2.2 (low V.1.2.2.2.2 b a (ch V.1.2.2.2.2 a)) = true := by
    rcases x1 with q | q
    · rw [q]; exact ha
    · exact (ch_mem hw q).2.1
  have hlA := hv_lt hw hlv
  have key : ∀ (κ : Nat) (x : Int32), κ + 20 ≤ 30 → x = xv V a b → ∃ κ2, fL_isPair_25 aa (k, κ) (nI a) (nI b) (nI sv) (nI (low V.1.2.2.2.2 b a (ch V.1.2.2.2.2 a))) x = some (1, (k, κ2)) := by
    intro κ x hκ hx
    have k53 : ∀ (κ : Nat), κ + 17 ≤ 30 → ∃ κ2, fL_isPair_53 aa (k, κ) (nI a) (nI b) (nI sv) (nI (low V.1.2.2.2.2 b a (ch V.1.2.2.2.2 a))) x = some (1, (k, κ2)) := by
      intro κ hκ
      unfold fL_isPair_53
      dsimp only
      rw [n_eq (by omega) (by omega)]
      by_cases c : low V.1.2.2.2.2 b a (ch V.1.2.2.2.2 a) = b
      · rw [if_pos c]
        exact ok_70 h ha hb hs (by omega) hx
      · rw [if_neg c, gx_chk_t (by omega), q_isAbove_t h hlv hb, gx_b_some]
        dsimp only
        rw [if_pos (x2.resolve_left c), if_pos rfl]
        exact ok_70 h ha hb hs (by omega) hx
    unfold fL_isPair_25
    dsimp only
    rw [gx_chk_t (by omega), q_commonSuperior_t h hb ha, gx_b_some]
    dsimp only
    rw [if_pos (congrArg nI (low_sym hw ha hb)), n_eq (by omega) (by omega)]
    by_cases c : low V.1.2.2.2.2 b a (ch V.1.2.2.2.2 a) = a
    · rw [if_pos c]
      exact k53 _ (by omega)
    · rw [if_neg c, gx_chk_t (by omega), q_isAbove_t h hlv ha, gx_b_some]
      dsimp only
      rw [if_pos (x1.resolve_left c), if_pos rfl]
      exact k53 _ (by omega)
  unfold fL_isPair
  rw [gx_chk_t (by decide), q_commonSuperior_t h ha hb, gx_b_some]
  dsimp only
  rw [gx_chk_t (by decide), q_isAbove_t h ha hb, gx_b_some]
  dsimp only
  by_cases e : a ∈ ch V.1.2.2.2.2 b
  · rw [if_pos e, if_pos rfl]
    exact key (0 + 1 + 1) 1 (by decide) (if_pos e).symm
  · rw [if_neg e, if_neg (by decide)]
    exact key (0 + 1 + 1) 0 (by decide) (if_neg e).symm
end Pair9
