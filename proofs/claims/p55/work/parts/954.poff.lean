/-! isOfficer -/
section Off9
variable {V : AN} {k : CS} {aa : gx_AA}
theorem kq_O {V : AN} {k : CS} {τ : OS} (h : kq V k) : kq V (kO k τ) := h
theorem kO_O (k : CS) (τ τ' : OS) : kO (kO k τ) τ' = kO k τ' := rfl
/-- whose command counts -/
def ws (V : AN) (a c : Nat) : Nat := if V.1.2.2.2.2 c = some a then siz V.1.1 V.1.2.2.2.2 c else 0
theorem nI_bd {V : AN} (hw : wO V 0) {f : Nat → Nat} (hf : ∀ c, f c ≤ 12) (k i : Nat) (hk : k ≤ 12) : sr f i k ≤ 144 := by
  have := sr_le (f := f) (g := fun _ => 12) k i (fun j _ _ => hf j)
  rw [sr_k] at this
  omega
theorem ok_239 (h : kq V k) {a : Nat} (ha : hv V.1.2.2.2.2 a = true) {κ : Nat} (hκ : κ + 8 ≤ 420) : ∃ τ κ2, fL_isOfficer_239 aa (k, κ) (nI a) (nI (siz V.1.1 V.1.2.2.2.2 a)) (nI (sr (wu V.1.2.2.2.2 a) 0 V.1.1)) 1 1 = some (1, (kO k τ, κ2)) := by
  have hw := h.2.1
  have hA := hw.2.1
  have haA := hv_lt hw ha
  have hsz := siz_ch_le hw a
  have hwu : sr (wu V.1.2.2.2.2 a) 0 V.1.1 ≤ 144 := nI_bd h.2 (fun c => by unfold wu i1; split <;> omega) _ _ hA
  obtain ⟨τ, n, n1, n2, w1, w2⟩ := q_write h ha
  unfold fL_isOfficer_239
  dsimp only
  rw [gx_chk_t (by omega), w1, gx_b_some]
  dsimp only
  rw [if_neg one0, if_neg one0, gx_chk_t (by omega), q_commandSize_t (kq_O h) ha, gx_b_some]
  dsimp only
  rw [if_pos rfl, gx_chk_t (by omega), q_commandSizeByCounting_t (kq_O h) ha, gx_b_some]
  dsimp only
  rw [if_pos rfl, gx_chk_t (by omega), q_subordinates_t (kq_O h) ha, gx_b_some]
  dsimp only
  rw [if_pos (show nI (sr (fun q => i1 (V.1.2.2.2.2 q = some a)) 0 V.1.1) = nI (sr (wu V.1.2.2.2.2 a) 0 V.1.1) from rfl), gx_chk_t (by omega), q_depthFromTop_t (kq_O h) ha, gx_b_some]
  dsimp only
  rw [gx_chk_t (by omega), q_depth_t (kq_O h) ha, gx_b_some]
  dsimp only
  rw [if_pos rfl, if_neg (show ¬ nI n < (1 : Int32) from nI_nlt (a := n) (b := 1) n1 (by omega)), gx_chk_t (by omega), show nI n - (1 : Int32) = nI (n - 1) from n_sub (a := n) (b := 1) n1, w2, gx_b_some]
  dsimp only
  by_cases c : 0 < sr (wu V.1.2.2.2.2 a) 0 V.1.1
  · rw [if_pos c, if_pos (show nI 41 = (41 : Int32) from rfl), if_neg (show ¬ nI (sr (wu V.1.2.2.2.2 a) 0 V.1.1) ≤ (0 : Int32) from nI_nle c (by omega)), gx_chk_t (by omega)]
    exact ⟨τ, _, rfl⟩
  · have e0 : sr (wu V.1.2.2.2.2 a) 0 V.1.1 = 0 := by omega
    rw [if_neg c, if_neg (show ¬ nI (48 + a % 10) = (41 : Int32) from fun q => by have := (nI_eq (b := 41) (by omega) (by decide)).mp q; omega), e0, if_pos (show nI 0 ≤ (0 : Int32) by decide), gx_chk_t (by omega)]
    exact ⟨τ, _, rfl⟩
theorem ok_188 (h : kq V k) {a : Nat} (ha : hv V.1.2.2.2.2 a = true) {κ : Nat} (hκ : κ + 14 ≤ 420) : ∃ τ κ2, fL_isOfficer_188 aa (k, κ) (nI a) (nI (siz V.1.1 V.1.2.2.2.2 a)) (nI (sr (wu V.1.2.2.2.2 a) 0 V.1.1)) 1 = some (1, (kO k τ, κ2)) := by
  have hw := h.2.1
  have hA := hw.2.1
  have haA := hv_lt hw ha
  have hL := (h.2.2.1 a haA).1
  have hF := h.2.2.2.1 a ha
  have hR := hw.2.2.2.2.2 a haA
  unfold fL_isOfficer_188
  dsimp only
  rw [gx_chk_t (by omega), q_loyalty_t h ha, gx_b_some]
  dsimp only
  rw [if_neg (nI_pos (by omega)), gx_chk_t (by omega), q_loyalty_t h ha, gx_b_some]
  dsimp only
  rw [if_neg (show ¬ (100 : Int32) < nI (V.1.2.2.1 a) from nI_nlt (a := 100) hL (by omega)), gx_chk_t (by omega), q_refusals_t h ha, gx_b_some]
  dsimp only
  rw [if_neg (nI_pos (by omega)), gx_chk_t (by omega), q_refusals_t h ha, gx_b_some]
  dsimp only
  rw [if_neg (show ¬ (2 : Int32) < nI (V.1.2.2.2.1 a) from nI_nlt (a := 2) hF (by omega)), gx_chk_t (by omega), q_rank_t h ha, gx_b_some]
  dsimp only
  rw [if_neg (show ¬ nI (V.1.2.1 a) < (1 : Int32) from nI_nlt (a := V.1.2.1 a) (b := 1) hR.1 (by omega))]
  exact ok_239 h ha (by omega)
theorem ok_tail (h : kq V k) (h9 : V.1.2.1 0 = 9) {a : Nat} (ha : hv V.1.2.2.2.2 a = true) {κ n : Nat} (hκ : κ + 25 ≤ 420) {v2 v5 : Int32} (h5 : nI V.1.1 ≤ v5) : ∃ τ κ2, fL_isOfficer_8 aa (n + 1) (k, κ) (nI a) v2 (nI (siz V.1.1 V.1.2.2.2.2 a)) (nI (sr (wu V.1.2.2.2.2 a) 0 V.1.1)) v5 = some (1, (kO k τ, κ2)) := by
  have hw := h.2.1
  have hA := hw.2.1
  have haA := hv_lt hw ha
  have hR := hw.2.2.2.2.2 a haA
  rw [fL_isOfficer_8_s]
  dsimp only
  rw [gx_chk_t (by omega), q_appointedCount h, gx_b_some, if_pos h5]
  by_cases c : a = 0
  · subst c
    rw [if_pos (show nI 0 = (0 : Int32) from rfl), gx_chk_t (by omega), q_depth_t h ha, gx_b_some]
    dsimp only
    rw [ch_none hw.2.2.1, if_pos (show nI ([] : List Nat).length = (0 : Int32) from rfl), gx_chk_t (by omega), q_superior_0 h, gx_b_some]
    dsimp only
    rw [if_pos rfl, gx_chk_t (by omega), q_rank_t h ha, gx_b_some]
    dsimp only
    rw [h9, if_pos (show nI 9 = (9 : Int32) from rfl)]
    exact ok_188 h ha (by omega)
  · obtain ⟨p, e, hp⟩ := po_some hw ha c
    obtain ⟨p1, p2, p3⟩ := hw.2.2.2.2.1 a p e
    have hRp := hw.2.2.2.2.2 p p1
    have e1 : pI (V.1.2.2.2.2 a) = nI p := by rw [e]; rfl
    rw [if_neg (show ¬ nI a = (0 : Int32) from fun q => c ((nI_eq (b := 0) (by omega) (by decide)).mp q)), gx_chk_t (by omega), q_superior_t h ha c, gx_b_some, e1]
    dsimp only
    rw [gx_chk_t (by omega), q_rank_t h p2, gx_b_some]
    dsimp only
    rw [gx_chk_t (by omega), q_rank_t h ha, gx_b_some]
    dsimp only
    rw [n_le (by omega) (by omega), if_neg (by omega), gx_chk_t (by omega), q_depth_t h ha, gx_b_some]
    dsimp only
    rw [gx_chk_t (by omega), q_superior_t h ha c, gx_b_some, e1]
    dsimp only
    rw [gx_chk_t (by omega), q_depth_t h p2, gx_b_some]
    dsimp only
    rw [if_pos (show nI (ch V.1.2.2.2.2 a).length = nI (ch V.1.2.2.2.2 p).length + (1 : Int32) by rw [ch_some hw e, List.length_cons]; exact (nI_1 _).symm), gx_chk_t (by omega), show fL_isAbove k (0 : Int32) (nI a) = _ from q_isAbove_t h (hv_0 _) ha, gx_b_some]
    dsimp only
    rw [if_pos ((ch_top hw ha).resolve_left c), if_pos rfl]
    exact ok_188 h ha (by omega)
theorem ok_loop (h : kq V k) (h9 : V.1.2.1 0 = 9) {a sv : Nat} (ha : hv V.1.2.2.2.2 a = true) (hs : sv ≤ 100) : ∀ (d i n κ x y : Nat), i + d = V.1.1 → d < n → κ + 32 * d + 25 ≤ 420 → x + sr (ws V a) i d = siz V.1.1 V.1.2.2.2.2 a → y + sr (wu V.1.2.2.2.2 a) i d = sr (wu V.1.2.2.2.2 a) 0 V.1.1 → ∃ τ κ2, fL_isOfficer_8 aa n (k, κ) (nI a) (nI sv) (nI x) (nI y) (nI i) = some (1, (kO k τ, κ2)) := by
  have hw := h.2.1
  have hA := hw.2.1
  have haA := hv_lt hw ha
  intro d
  induction d with
  | zero =>
    intro i n κ x y hi hn hκ hx hy
    obtain ⟨m, rfl⟩ : ∃ m, n = m + 1 := ⟨n - 1, by omega⟩
    have ex : x = siz V.1.1 V.1.2.2.2.2 a := hx
    have ey : y = sr (wu V.1.2.2.2.2 a) 0 V.1.1 := hy
    rw [ex, ey]
    exact ok_tail h h9 ha (by omega) ((nI_leI (by omega) (by omega)).mpr (by omega))
  | succ d ih =>
    intro i n κ x y hi hn hκ hx hy
    obtain ⟨m, rfl⟩ : ∃ m, n = m + 1 := ⟨n - 1, by omega⟩
    have hx2 : x + (ws V a i + sr (ws V a) (i + 1) d) = siz V.1.1 V.1.2.2.2.2 a := hx
    have hy2 : y + (wu V.1.2.2.2.2 a i + sr (wu V.1.2.2.2.2 a) (i + 1) d) = sr (wu V.1.2.2.2.2 a) 0 V.1.1 := hy
    rw [fL_isOfficer_8_s]
    dsimp only
    rw [gx_chk_t (by omega), q_appointedCount h, gx_b_some, n_le (by omega) (by omega), if_neg (by omega), gx_chk_t (by omega)]
    by_cases c : hv V.1.2.2.2.2 i = true
    rotate_left
    · have hP : V.1.2.2.2.2 i = none := (hv_no (Bool.eq_false_iff.mpr c)).2
      have e1 : ws V a i = 0 := if_neg (by rw [hP]; intro q; cases q)
      have e2 : wu V.1.2.2.2.2 a i = 0 := i1_f (by rw [hP]; intro q; cases q)
      rw [q_isInNavy_f h (by rintro ⟨o, e, ho⟩; exact c (by rw [(nI_eq (by omega) (by have := hv_lt hw ho; omega)).mp e]; exact ho)), gx_b_some, if_pos rfl, nI_1]
      exact ih (i + 1) m κ x y (by omega) (by omega) (by omega) (by omega) (by omega)
    · rw [q_isInNavy_t h c, gx_b_some, if_neg one0, gx_chk_t (by omega)]
      -- behind the question who is over i
      have fin : ∀ κ x y, κ + 32 * d + 25 + 30 ≤ 420 → x + sr (ws V a) (i + 1) d = siz V.1.1 V.1.2.2.2.2 a → y + sr (wu V.1.2.2.2.2 a) (i + 1) d = sr (wu V.1.2.2.2.2 a) 0 V.1.1 → ∃ τ κ2, fL_isOfficer_76 aa (fL_isOfficer_8 aa m) (k, κ) (nI a) (nI sv) (nI x) (nI y) (nI i) = some (1, (kO k τ, κ2)) := by
        intro κ x y h1 h2 h3
        obtain ⟨κ2, hp⟩ := p_isPair (aa := aa) h ha c hs
        unfold fL_isOfficer_76
        dsimp only
        rw [gx_chk_t (by omega), hp, gx_b_some]
        dsimp only
        rw [if_neg one0, nI_1]
        exact ih (i + 1) m _ x y (by omega) (by omega) (by omega) h2 h3
      by_cases c2 : V.1.2.2.2.2 i = some a
      · have hi0 : i ≠ 0 := fun q => by rw [q, hw.2.2.1] at c2; cases c2
        have e1 : ws V a i = siz V.1.1 V.1.2.2.2.2 i := if_pos c2
        have e2 : wu V.1.2.2.2.2 a i = 1 := i1_t c2
        rw [q_superior_t h c hi0, gx_b_some]
        dsimp only
        rw [if_pos (show pI (V.1.2.2.2.2 i) = nI a by rw [c2]; rfl)]
        unfold fL_isOfficer_43 fL_isOfficer_58
        rw [if_neg one0, if_neg one0]
        dsimp only
        rw [gx_chk_t (by omega), q_commandSize_t h c, gx_b_some, nI_add, nI_1]
        exact fin _ _ _ (by omega) (by omega) (by omega)
      · have e1 : ws V a i = 0 := if_neg c2
        have e2 : wu V.1.2.2.2.2 a i = 0 := i1_f c2
        have hne : ∃ v, fL_superior k (nI i) = some (v, k) ∧ ¬ v = nI a := by
          by_cases c3 : i = 0
          · refine ⟨-75, by rw [c3]; exact q_superior_0 h, fun z => ?_⟩
            have : (nI a).toInt = -75 := by rw [← z]; decide
            rw [nI_toInt (by omega)] at this
            omega
          · obtain ⟨p, e, hp⟩ := po_some hw c c3
            refine ⟨_, q_superior_t h c c3, fun z => ?_⟩
            rw [e] at z
            have := (nI_eq (by have := (hw.2.2.2.2.1 i p e).1; omega) (by omega)).mp (show nI p = nI a from z)
            exact c2 (by rw [e, this])
        obtain ⟨v, s1, s2⟩ := hne
        rw [s1, gx_b_some]
        dsimp only
        rw [if_neg s2]
        unfold fL_isOfficer_43 fL_isOfficer_58
        rw [if_pos rfl, if_pos rfl, Int32.add_zero, Int32.add_zero]
        exact fin _ _ _ (by omega) (by omega) (by omega)
theorem p_isOfficer (h : kq V k) (h9 : V.1.2.1 0 = 9) {a sv : Nat} (ha : hv V.1.2.2.2.2 a = true) (hs : sv ≤ 100) : ∃ τ κ2, fL_isOfficer aa k (nI a) (nI sv) = some (1, (kO k τ, κ2)) := by
  have hw := h.2.1
  have hA := hw.2.1
  unfold fL_isOfficer
  exact ok_loop h h9 ha hs V.1.1 0 2000 0 1 0 (by omega) (by omega) (by omega) (siz_rec hw a).symm (Nat.zero_add _)
end Off9
