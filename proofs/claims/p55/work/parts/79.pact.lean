/-! the actions: both sides do the same, or refuse for the same reason -/
def Act (V : AN) (tbl : List (Nat × Int32)) (τ : NS) (σ : OS) (rc : Option (Int32 × NS)) (rm : Option (Int32 × OS)) (Po : AN → Nat → Prop) : Prop :=
  (∃ q ∈ tbl, rc = some (q.2, τ) ∧ rm = some (nI q.1, σ)) ∨ (∃ V' w' τ' σ' a, rc = some (nI a, τ') ∧ rm = some (0, σ') ∧ a < 2 ^ 31 ∧ w' ≤ V'.2.1.length ∧ zN V' w' τ' ∧ zG V' 0 (σ'.2 1) ∧ wO V' 0 ∧ tot V' ≤ tot V + 1 ∧ frm σ σ' ∧ σ'.1 14 = nI a ∧ Po V' a)
def PoAdd (V : AN) (p1 : Int32) (V' : AN) (a : Nat) : Prop := ∃ o r l, p1 = nI o ∧ hv V.1.2.2.2.2 o = true ∧ 1 ≤ r ∧ r < V.1.2.1 o ∧ l ≤ 100 ∧ V.1.1 < 12 ∧ a = V.1.1 ∧ V' = ((V.1.1 + 1, uN V.1.2.1 V.1.1 r, uN V.1.2.2.1 V.1.1 l, uN V.1.2.2.2.1 V.1.1 0, uN V.1.2.2.2.2 V.1.1 (some o)), V.2)
def PoRaise (V : AN) (p1 : Int32) (V' : AN) (a : Nat) : Prop := ∃ o, p1 = nI o ∧ hv V.1.2.2.2.2 o = true ∧ o ≠ 0 ∧ a = V.1.2.1 o + 1 ∧ V' = ((V.1.1, uN V.1.2.1 o (V.1.2.1 o + 1), V.1.2.2), V.2)
def PoMove (V : AN) (p1 p2 : Int32) (V' : AN) (a : Nat) : Prop := ∃ o s, p1 = nI o ∧ p2 = nI s ∧ hv V.1.2.2.2.2 o = true ∧ hv V.1.2.2.2.2 s = true ∧ o ≠ 0 ∧ o ≠ s ∧ o ∉ ch V.1.2.2.2.2 s ∧ V.1.2.1 o < V.1.2.1 s ∧ a = siz V.1.1 (uN V.1.2.2.2.2 o (some s)) s ∧ V' = ((V.1.1, V.1.2.1, V.1.2.2.1, V.1.2.2.2.1, uN V.1.2.2.2.2 o (some s)), V.2)
def PoFire (V : AN) (p1 : Int32) (V' : AN) (a : Nat) : Prop := ∃ o, p1 = nI o ∧ hv V.1.2.2.2.2 o = true ∧ o ≠ 0 ∧ a = sr (fun q => i1 (V.1.2.2.2.2 q = some o)) 0 V.1.1 ∧ V' = (lvs o V 0).1
def PoSend (V : AN) (p1 p2 : Int32) (V' : AN) (a : Nat) : Prop := ∃ o s v, p1 = nI o ∧ p2 = nI s ∧ hv V.1.2.2.2.2 o = true ∧ hv V.1.2.2.2.2 s = true ∧ o ∈ ch V.1.2.2.2.2 s ∧ v ≤ 100 ∧ a = V.2.1.length ∧ V' = (V.1, V.2.1 ++ [(o, s, v)], V.2.2)
def PoPass (V : AN) (p1 : Int32) (V' : AN) (a : Nat) : Prop := ∃ h, 1 ≤ h ∧ h ≤ 24 ∧ p1 = nI h ∧ V' = hours h V ∧ a = (hours h V).2.2.2.2.1 - V.2.2.2.2.1 ∧ V.2.2.2.2.1 ≤ (hours h V).2.2.2.2.1
def PoBook (V : AN) (V' : AN) (_ : Nat) : Prop := ∃ B, V' = (V.1, V.2.1, B, V.2.2.2)
section Acts
variable {V : AN} {w : Nat} {τ : NS} {σ : OS}
theorem one0 : ¬ (1 : Int32) = 0 := by decide
theorem frm_rf : frm σ σ := ⟨fun _ _ => rfl, fun _ _ => rfl⟩
theorem frm_14 {v : Int32} {σ' : OS} (h : fr1 σ σ') : frm σ (os_sf σ' 14 v) := ⟨fun k hk => (sf_k hk).trans (congrFun h.1 k), fun q hq => h.2 q hq⟩
/-- a number of a range, or not -/
theorem rng (p : Int32) {b c : Nat} (hb : b < 2 ^ 31) (hc : c < 2 ^ 31) : (∃ a : Nat, b ≤ a ∧ a ≤ c ∧ p = nI a) ∨ ((¬ ∃ a : Nat, b ≤ a ∧ a ≤ c ∧ p = nI a) ∧ (p < nI b ∨ (¬ p < nI b ∧ ¬ p ≤ nI c))) := by
  by_cases h : ∃ a : Nat, b ≤ a ∧ a ≤ c ∧ p = nI a
  · exact Or.inl h
  · refine Or.inr ⟨h, ?_⟩
    by_cases h0 : p < nI b
    · exact Or.inl h0
    · refine Or.inr ⟨h0, fun h1 => h ?_⟩
      have hp : ¬ p < 0 := by
        rw [Int32.lt_iff_toInt_lt, nI_toInt hb] at h0
        rw [Int32.lt_iff_toInt_lt, Int32.toInt_zero]
        omega
      obtain ⟨j, hj, rfl⟩ := nI_of hp
      rw [nI_ltI hj hb] at h0
      rw [nI_leI hj hc] at h1
      exact ⟨j, by omega, by omega, rfl⟩
theorem off_P {P : Nat → Option Nat} (p : Int32) : (∃ o, p = nI o ∧ hv P o = true) ∨ ¬ ∃ o, p = nI o ∧ hv P o = true := Classical.em _
theorem wO_T (h : wO V w) : wT V.1.1 V.1.2.1 V.1.2.2.2.2 := h.1
/-! appoint -/
theorem a_add (hw : wO V w) (hc : zN V w τ) (hm : zG V 0 (σ.2 1)) (p1 p2 p3 : Int32) : Act V [(1, -1), (2, -2), (3, -3)] τ σ (fX2_enlist τ p1 p2 p3) (fX9_adds σ p1 p2 p3) (PoAdd V p1) := by
  have hw0 := hw
  have hm0 := hm
  have hc0 := hc
  obtain ⟨hT, hL, hF, hK, hwK, hE, hB⟩ := hw
  have hA := hT.2.1
  have hA1 := hT.1
  obtain ⟨g1, g2, g3, g4, g5, g6, g7⟩ := hc
  obtain ⟨m1, m2, m3, m4, m5, m6, m7⟩ := hm
  unfold Act fX2_enlist fX9_adds
  rcases off_P (P := V.1.2.2.2.2) p1 with ⟨o, rfl, ho⟩ | hn
  rotate_left
  · rw [c_serves_f hT g1 hn, gx_b_some, if_pos rfl, m_is_f hT m1 hn, gx_b_some, if_pos rfl]
    exact Or.inl ⟨(1, -1), by simp, rfl, rfl⟩
  have hoA := hv_lt hT ho
  have hR := hT.2.2.2.2.2 o hoA
  have go : gx_in (nI o) 12 := nI_in (by omega) (by decide)
  rw [c_serves_t hT g1 ho, gx_b_some, if_neg one0, m_is_t hT m1 ho, gx_b_some, if_neg one0, gx_chk_t go, c_rnk hA g1 hoA, m_of1 hA m1 hoA, gx_b_some, show nI (V.1.2.1 o) - (1 : Int32) = nI (V.1.2.1 o - 1) from n_sub hR.1]
  rcases rng p2 (b := 1) (c := V.1.2.1 o - 1) (by decide) (by omega) with ⟨r, r1, r2, rfl⟩ | ⟨hx, hy⟩
  rotate_left
  · have e2 : fX9_in p2 (1 : Int32) (nI (V.1.2.1 o - 1)) = some 0 := m_in_f (b := 1) (by decide) (by omega) hx
    rw [e2, gx_b_some, if_pos rfl]
    refine Or.inl ⟨(2, -2), by simp, ?_, rfl⟩
    rcases hy with hy | ⟨hy, hz⟩
    · rw [if_pos (show p2 < 1 from hy)]
    · rw [if_neg (show ¬ p2 < 1 from hy), if_pos]
      have hp : ¬ p2 < 0 := by
        rw [Int32.lt_iff_toInt_lt, nI_toInt (by decide)] at hy
        rw [Int32.lt_iff_toInt_lt, Int32.toInt_zero]
        omega
      obtain ⟨j, hj, rfl⟩ := nI_of hp
      rw [nI_leI hj (by omega)] at hz
      exact (nI_leI (by omega) hj).mpr (by omega)
  have e2 : fX9_in (nI r) (1 : Int32) (nI (V.1.2.1 o - 1)) = some 1 := m_in_t (b := 1) r1 r2 (by omega)
  rw [e2, gx_b_some, if_neg one0, if_neg (show ¬ nI r < 1 from nI_nlt (a := r) (b := 1) r1 (by omega)), n_le (by omega) (by omega), if_neg (by omega)]
  rcases rng p3 (b := 0) (c := 100) (by decide) (by decide) with ⟨l, l1, l2, rfl⟩ | ⟨hx, hy⟩
  rotate_left
  · have e3 : fX9_in p3 (0 : Int32) (100 : Int32) = some 0 := m_in_f (b := 0) (c := 100) (by decide) (by decide) hx
    rw [e3, gx_b_some, if_pos rfl]
    refine Or.inl ⟨(2, -2), by simp, ?_, rfl⟩
    rcases hy with hy | ⟨hy, hz⟩
    · rw [if_pos (show p3 < 0 from hy)]
    · rw [if_neg (show ¬ p3 < 0 from hy), if_neg (show ¬ p3 ≤ 100 from hz)]
  have e3 : fX9_in (nI l) (0 : Int32) (100 : Int32) = some 1 := m_in_t (b := 0) (c := 100) l1 l2 (by decide)
  rw [e3, gx_b_some, if_neg one0, if_neg (nI_pos (by omega)), if_pos (show nI l ≤ (100 : Int32) from (nI_leI (b := 100) (by omega) (by decide)).mpr l2), gx_chk_t gi0]
  simp only [m_A m1, c_A g1]
  by_cases cA : V.1.1 = 12
  · rw [if_neg (show ¬ nI V.1.1 < (12 : Int32) from nI_nlt (a := V.1.1) (b := 12) (by omega) (by omega)), if_pos (show nI V.1.1 = (12 : Int32) from by rw [cA]; rfl)]
    exact Or.inl ⟨(3, -3), by simp, rfl, rfl⟩
  rw [if_pos (show nI V.1.1 < (12 : Int32) from (nI_ltI (b := 12) (by omega) (by decide)).mpr (by omega)), if_neg (show ¬ nI V.1.1 = (12 : Int32) from fun q => cA ((nI_eq (b := 12) (by omega) (by decide)).mp q))]
  have gA : gx_in (nI V.1.1) 12 := nI_in (by omega) (by decide)
  have eA : (nI V.1.1).toNatClampNeg = V.1.1 := nI_clamp (by omega)
  have hPA := hT.2.2.2.1 V.1.1 (Nat.le_refl _)
  have hoo : o ≠ V.1.1 := by omega
  have hh : ∀ q, hv (uN V.1.2.2.2.2 V.1.1 (some o)) q = if q = V.1.1 then true else hv V.1.2.2.2.2 q := by
    intro q
    unfold hv
    by_cases e : q = V.1.1
    · rw [e, uN_s, if_pos rfl]; simp
    · rw [uN_o e, if_neg e]
  have hT' : wT (V.1.1 + 1) (uN V.1.2.1 V.1.1 r) (uN V.1.2.2.2.2 V.1.1 (some o)) := by
    obtain ⟨t1, t2, t3, t4, t5, t6⟩ := hT
    refine ⟨by omega, by omega, ?_, fun q hq => ?_, fun q p hp => ?_, fun q hq => ?_⟩
    · rw [uN_o (by omega)]; exact t3
    · rw [uN_o (by omega)]; exact t4 q (by omega)
    · rw [hh]
      by_cases e : q = V.1.1
      · rw [e, uN_s] at hp
        cases hp
        rw [e, uN_s, uN_o hoo, if_neg hoo]
        exact ⟨by omega, ho, by omega⟩
      · rw [uN_o e] at hp
        obtain ⟨k1, k2, k3⟩ := t5 q p hp
        rw [uN_o e, uN_o (by omega), if_neg (by omega)]
        exact ⟨by omega, k2, k3⟩
    · by_cases e : q = V.1.1
      · rw [e, uN_s]; omega
      · rw [uN_o e]; exact t6 q (by omega)
  have ho' : (uN V.1.2.2.2.2 V.1.1 (some o)) V.1.1 = some o := uN_s _ _ _
  refine Or.inr ⟨((V.1.1 + 1, uN V.1.2.1 V.1.1 r, uN V.1.2.2.1 V.1.1 l, uN V.1.2.2.2.1 V.1.1 0, uN V.1.2.2.2.2 V.1.1 (some o)), V.2), w, (τ.1, os_sf (os_sa (os_sa (os_sa (os_sa (os_sa τ.2.1 0 V.1.1 (nI r)) 1 V.1.1 (nI l)) 2 V.1.1 0) 3 V.1.1 (nI o)) 4 V.1.1 1) 5 (nI (V.1.1 + 1)), τ.2.2), os_sf (os_sa (os_sa (os_sa (os_sa (os_sa (os_sa σ 1 (7 + 5 * V.1.1 + 0) 1) 1 (7 + 5 * V.1.1 + 1) (nI r)) 1 (7 + 5 * V.1.1 + 2) (nI l)) 1 (7 + 5 * V.1.1 + 3) 0) 1 (7 + 5 * V.1.1 + 4) (nI o)) 1 0 (nI (V.1.1 + 1))) 14 (nI V.1.1), V.1.1, ?_, ?_, by omega, hwK, ⟨?_, g2, g3, g4, g5, g6, g7⟩, ?_, ?_, Nat.le_succ _, frm_14 (fr1_tr fr1_sa (fr1_tr fr1_sa (fr1_tr fr1_sa (fr1_tr fr1_sa (fr1_tr fr1_sa fr1_sa))))), sf_same, o, r, l, rfl, ho, r1, by omega, l2, by omega, rfl, rfl⟩
  · unfold fX3_add
    simp only [c_A g1, gx_chk_t gA, eA, gx_b_some]
    have e5 : os_f (os_sa (os_sa (os_sa (os_sa (os_sa τ.2.1 0 V.1.1 (nI r)) 1 V.1.1 (nI l)) 2 V.1.1 0) 3 V.1.1 (nI o)) 4 V.1.1 (vp_nar .boolean 1)) 5 + 1 = nI (V.1.1 + 1) := by
      show τ.2.1.1 5 + 1 = _
      rw [g1.1, nI_1]
    rw [e5]
    rfl
  · rw [show fX9_sets σ (nI V.1.1) (0 : Int32) (1 : Int32) = _ from m_sets (w := 0) (by omega) (by omega), gx_b_some]
    rw [show ∀ s : OS, fX9_sets s (nI V.1.1) (1 : Int32) (nI r) = some (os_sa s 1 (7 + 5 * V.1.1 + 1) (nI r)) from fun s => m_sets (w := 1) (by omega) (by omega), gx_b_some]
    rw [show ∀ s : OS, fX9_sets s (nI V.1.1) (2 : Int32) (nI l) = some (os_sa s 1 (7 + 5 * V.1.1 + 2) (nI l)) from fun s => m_sets (w := 2) (by omega) (by omega), gx_b_some]
    rw [show ∀ s : OS, fX9_sets s (nI V.1.1) (3 : Int32) (0 : Int32) = some (os_sa s 1 (7 + 5 * V.1.1 + 3) 0) from fun s => m_sets (w := 3) (by omega) (by omega), gx_b_some]
    rw [show ∀ s : OS, fX9_sets s (nI V.1.1) (4 : Int32) (nI o) = some (os_sa s 1 (7 + 5 * V.1.1 + 4) (nI o)) from fun s => m_sets (w := 4) (by omega) (by omega), gx_b_some]
    rw [gx_chk_t gi0, nI_1]
    rfl
  · refine ⟨sf_same, fun q hq => ?_, fun q hq => ?_⟩
    · show (os_sa (os_sa (os_sa (os_sa (os_sa τ.2.1 0 V.1.1 (nI r)) 1 V.1.1 (nI l)) 2 V.1.1 0) 3 V.1.1 (nI o)) 4 V.1.1 1).2 4 q = b1 (hv (uN V.1.2.2.2.2 V.1.1 (some o)) q)
      rw [hh]
      by_cases e : q = V.1.1
      · rw [e, sa_same, if_pos rfl]; rfl
      · rw [sa_i e, sa_j (by decide), sa_j (by decide), sa_j (by decide), sa_j (by decide), if_neg e]; exact g1.2.1 q hq
    · show (os_sa (os_sa (os_sa (os_sa (os_sa τ.2.1 0 V.1.1 (nI r)) 1 V.1.1 (nI l)) 2 V.1.1 0) 3 V.1.1 (nI o)) 4 V.1.1 1).2 0 q = nI (uN V.1.2.1 V.1.1 r q) ∧ (os_sa (os_sa (os_sa (os_sa (os_sa τ.2.1 0 V.1.1 (nI r)) 1 V.1.1 (nI l)) 2 V.1.1 0) 3 V.1.1 (nI o)) 4 V.1.1 1).2 1 q = nI (uN V.1.2.2.1 V.1.1 l q) ∧ (os_sa (os_sa (os_sa (os_sa (os_sa τ.2.1 0 V.1.1 (nI r)) 1 V.1.1 (nI l)) 2 V.1.1 0) 3 V.1.1 (nI o)) 4 V.1.1 1).2 2 q = nI (uN V.1.2.2.2.1 V.1.1 0 q) ∧ (os_sa (os_sa (os_sa (os_sa (os_sa τ.2.1 0 V.1.1 (nI r)) 1 V.1.1 (nI l)) 2 V.1.1 0) 3 V.1.1 (nI o)) 4 V.1.1 1).2 3 q = pI (uN V.1.2.2.2.2 V.1.1 (some o) q)
      simp only [os_sa, uN, upd]
      by_cases e : q = V.1.1
      · subst e
        simp [upd]
        exact ⟨rfl, rfl⟩
      · have hq2 : q < V.1.1 := by
          have : q < V.1.1 + 1 := hq
          omega
        obtain ⟨k1, k2, k3, k4⟩ := g1.2.2 q hq2
        simp [upd, e, k1, k2, k3, k4]
  · rw [sf_a]
    have q9 : ∀ i, i ≠ 0 → ¬ (7 + 5 * V.1.1 ≤ i ∧ i < 7 + 5 * V.1.1 + 5) → (os_sa (os_sa (os_sa (os_sa (os_sa (os_sa σ 1 (7 + 5 * V.1.1 + 0) 1) 1 (7 + 5 * V.1.1 + 1) (nI r)) 1 (7 + 5 * V.1.1 + 2) (nI l)) 1 (7 + 5 * V.1.1 + 3) 0) 1 (7 + 5 * V.1.1 + 4) (nI o)) 1 0 (nI (V.1.1 + 1))).2 1 i = σ.2 1 i := fun i h1 h2 => by
      rw [sa_i h1, sa_i (by omega), sa_i (by omega), sa_i (by omega), sa_i (by omega), sa_i (by omega)]
    refine ⟨⟨sa_same, fun q hq => ?_⟩, zS_mv hK m2 (fun i hi => q9 i (by omega) (by omega)), zB_mv hB.1 m3 (fun i hi => q9 i (by omega) (by omega)), (q9 1 (by omega) (by omega)).trans m4, (q9 2 (by omega) (by omega)).trans m5, (q9 3 (by omega) (by omega)).trans m6, (q9 4 (by omega) (by omega)).trans m7⟩
    show (os_sa (os_sa (os_sa (os_sa (os_sa (os_sa σ 1 (7 + 5 * V.1.1 + 0) 1) 1 (7 + 5 * V.1.1 + 1) (nI r)) 1 (7 + 5 * V.1.1 + 2) (nI l)) 1 (7 + 5 * V.1.1 + 3) 0) 1 (7 + 5 * V.1.1 + 4) (nI o)) 1 0 (nI (V.1.1 + 1))).2 1 (7 + 5 * q + 0) = b1 (hv (uN V.1.2.2.2.2 V.1.1 (some o)) q) ∧ _ = nI (uN V.1.2.1 V.1.1 r q) ∧ _ = nI (uN V.1.2.2.1 V.1.1 l q) ∧ _ = nI (uN V.1.2.2.2.1 V.1.1 0 q) ∧ _ = pI (uN V.1.2.2.2.2 V.1.1 (some o) q)
    rw [hh]
    by_cases e : q = V.1.1
    · subst e
      rw [if_pos rfl, uN_s, uN_s, uN_s, uN_s]
      refine ⟨?_, ?_, ?_, ?_, ?_⟩
      · rw [sa_i (by omega), sa_i (by omega), sa_i (by omega), sa_i (by omega), sa_i (by omega), sa_same]; rfl
      · rw [sa_i (by omega), sa_i (by omega), sa_i (by omega), sa_i (by omega), sa_same]
      · rw [sa_i (by omega), sa_i (by omega), sa_i (by omega), sa_same]
      · rw [sa_i (by omega), sa_i (by omega), sa_same]; rfl
      · rw [sa_i (by omega), sa_same]; rfl
    · have hq2 : q < V.1.1 := by
        have : q < V.1.1 + 1 := hq
        omega
      obtain ⟨k0, k1, k2, k3, k4⟩ := m1.2 q hq2
      rw [if_neg e, uN_o e, uN_o e, uN_o e, uN_o e]
      exact ⟨(q9 _ (by omega) (by omega)).trans k0, (q9 _ (by omega) (by omega)).trans k1, (q9 _ (by omega) (by omega)).trans k2, (q9 _ (by omega) (by omega)).trans k3, (q9 _ (by omega) (by omega)).trans k4⟩
  · refine ⟨hT', fun q hq => ?_, fun q hq => ?_, hK, Nat.zero_le _, fun e he => ?_, hB⟩
    · show uN V.1.2.2.1 V.1.1 l q ≤ 100 ∧ uN V.1.2.2.2.1 V.1.1 0 q ≤ 3
      by_cases e : q = V.1.1
      · rw [e, uN_s, uN_s]; omega
      · rw [uN_o e, uN_o e]; exact hL q (by have : q < V.1.1 + 1 := hq; omega)
    · show uN V.1.2.2.2.1 V.1.1 0 q ≤ 2
      have hq2 : hv (uN V.1.2.2.2.2 V.1.1 (some o)) q = true := hq
      rw [hh] at hq2
      by_cases e : q = V.1.1
      · rw [e, uN_s]; omega
      · rw [uN_o e]
        rw [if_neg e] at hq2
        exact hF q hq2
    · obtain ⟨k1, k2, k3⟩ := hE e he
      refine ⟨?_, by show e.2.1 < V.1.1 + 1; omega, k3⟩
      show hv (uN V.1.2.2.2.2 V.1.1 (some o)) e.1 = true
      rw [hh]
      split
      · rfl
      · exact k1
/-! promote -/
theorem a_raise (hw : wO V w) (hc : zN V w τ) (hm : zG V 0 (σ.2 1)) (p1 : Int32) : Act V [(1, -1), (2, -3)] τ σ (fX2_raiseRank τ p1) (fX9_raises σ p1) (PoRaise V p1) := by
  obtain ⟨hT, hL, hF, hK, hwK, hE, hB⟩ := hw
  have hA := hT.2.1
  obtain ⟨g1, g2, g3, g4, g5, g6, g7⟩ := hc
  obtain ⟨m1, m2, m3, m4, m5, m6, m7⟩ := hm
  unfold Act fX2_raiseRank fX9_raises
  rcases off_P (P := V.1.2.2.2.2) p1 with ⟨o, rfl, ho⟩ | hn
  rotate_left
  · rw [c_serves_f hT g1 hn, gx_b_some, if_pos rfl, m_is_f hT m1 hn, gx_b_some, if_pos rfl]
    exact Or.inl ⟨(1, -1), by simp, rfl, rfl⟩
  have hoA := hv_lt hT ho
  have hR := hT.2.2.2.2.2 o hoA
  have go : gx_in (nI o) 12 := nI_in (by omega) (by decide)
  simp only [gx_chk_t go]
  rw [c_serves_t hT g1 ho, gx_b_some, if_neg one0, m_is_t hT m1 ho, gx_b_some, if_neg one0, c_sup hA g1 hoA]
  by_cases c0 : o = 0
  · subst c0
    rw [hT.2.2.1, show pI none = -1 from rfl, if_pos rfl, if_pos (show nI 0 = (0 : Int32) from rfl)]
    exact Or.inl ⟨(2, -3), by simp, rfl, rfl⟩
  obtain ⟨p, e, hp⟩ := po_some hT ho c0
  obtain ⟨k1, k2, k3⟩ := hT.2.2.2.2.1 o p e
  have hRp := hT.2.2.2.2.2 p k1
  rw [if_neg (show ¬ nI o = (0 : Int32) from fun q => c0 ((nI_eq (b := 0) (by omega) (by decide)).mp q)), e, show pI (some p) = nI p from rfl, if_neg (n_m1 (by omega)), gx_chk_t (nI_in (by omega) (by decide)), c_rnk hA g1 hoA, c_rnk hA g1 k1, m_of4 hA m1 hoA, gx_b_some, e, show pI (some p) = nI p from rfl, m_of1 hA m1 k1, gx_b_some, m_of1 hA m1 hoA, gx_b_some, gx_b_some, show nI (V.1.2.1 o) + (1 : Int32) = nI (V.1.2.1 o + 1) from nI_1 _, n_lt (by omega) (by omega), n_lt (by omega) (by omega)]
  by_cases c1 : V.1.2.1 o + 1 < V.1.2.1 p
  rotate_left
  · rw [if_neg c1, if_neg c1]
    exact Or.inl ⟨(2, -3), by simp, rfl, rfl⟩
  rw [if_pos c1, if_pos c1, nI_clamp (by omega)]
  have q9 : ∀ i, i ≠ 7 + 5 * o + 1 → (os_sa σ 1 (7 + 5 * o + 1) (nI (V.1.2.1 o + 1))).2 1 i = σ.2 1 i := fun i hi => sa_i hi
  have hz : zM V.1.1 (uN V.1.2.1 o (V.1.2.1 o + 1)) V.1.2.2.1 V.1.2.2.2.1 V.1.2.2.2.2 ((os_sa σ 1 (7 + 5 * o + 1) (nI (V.1.2.1 o + 1))).2 1) := by
    refine ⟨by rw [q9 0 (by omega)]; exact m1.1, fun q hq => ?_⟩
    obtain ⟨r0, r1, r2, r3, r4⟩ := m1.2 q hq
    rw [q9 _ (by omega), q9 (7 + 5 * q + 2) (by omega), q9 (7 + 5 * q + 3) (by omega), q9 (7 + 5 * q + 4) (by omega)]
    refine ⟨r0, ?_, r2, r3, r4⟩
    by_cases e9 : q = o
    · rw [e9, sa_same, uN_s]
    · rw [q9 _ (by omega), uN_o e9]; exact r1
  refine Or.inr ⟨((V.1.1, uN V.1.2.1 o (V.1.2.1 o + 1), V.1.2.2), V.2), w, (τ.1, os_sa τ.2.1 0 o (nI (V.1.2.1 o + 1)), τ.2.2), os_sf (os_sa σ 1 (7 + 5 * o + 1) (nI (V.1.2.1 o + 1))) 14 (nI (V.1.2.1 o + 1)), V.1.2.1 o + 1, ?_, ?_, by omega, hwK, ⟨⟨g1.1, fun q hq => by rw [sa_j (by decide)]; exact g1.2.1 q hq, fun q hq => ?_⟩, g2, g3, g4, g5, g6, g7⟩, ⟨hz, zS_mv hK m2 (fun i hi => q9 i (by omega)), zB_mv hB.1 m3 (fun i hi => q9 i (by omega)), (q9 1 (by omega)).trans m4, (q9 2 (by omega)).trans m5, (q9 3 (by omega)).trans m6, (q9 4 (by omega)).trans m7⟩, ?_, Nat.le_succ _, frm_14 fr1_sa, sf_same, o, rfl, ho, c0, rfl, rfl⟩
  · rw [show os_a (os_sa τ.2.1 0 o (nI (V.1.2.1 o + 1))) 0 o = nI (V.1.2.1 o + 1) from sa_same]
  · rw [show fX9_sets σ (nI o) (1 : Int32) (nI (V.1.2.1 o + 1)) = _ from m_sets (w := 1) (by omega) (by omega), gx_b_some, m_of1 hA hz hoA, gx_b_some]
    show some ((0 : Int32), os_sf _ 14 (nI (uN V.1.2.1 o (V.1.2.1 o + 1) o))) = _
    rw [uN_s]
  · obtain ⟨r1, r2, r3, r4⟩ := g1.2.2 q hq
    show (os_sa τ.2.1 0 o (nI (V.1.2.1 o + 1))).2 0 q = nI (uN V.1.2.1 o (V.1.2.1 o + 1) q) ∧ (os_sa τ.2.1 0 o (nI (V.1.2.1 o + 1))).2 1 q = _ ∧ (os_sa τ.2.1 0 o (nI (V.1.2.1 o + 1))).2 2 q = _ ∧ (os_sa τ.2.1 0 o (nI (V.1.2.1 o + 1))).2 3 q = _
    rw [sa_j (q := 1) (by decide), sa_j (q := 2) (by decide), sa_j (q := 3) (by decide)]
    refine ⟨?_, r2, r3, r4⟩
    by_cases e9 : q = o
    · rw [e9, sa_same, uN_s]
    · rw [sa_i e9, uN_o e9]; exact r1
  · obtain ⟨t1, t2, t3, t4, t5, t6⟩ := hT
    refine ⟨⟨t1, t2, t3, t4, fun q p' hp' => ?_, fun q hq => ?_⟩, hL, hF, hK, Nat.zero_le _, hE, hB⟩
    · obtain ⟨j1, j2, j3⟩ := t5 q p' hp'
      refine ⟨j1, j2, ?_⟩
      show uN V.1.2.1 o (V.1.2.1 o + 1) q < uN V.1.2.1 o (V.1.2.1 o + 1) p'
      by_cases e9 : q = o
      · rw [e9] at hp'
        have : V.1.2.2.2.2 o = some p' := hp'
        rw [e] at this
        cases this
        rw [e9, uN_s, uN_o hp]
        omega
      · rw [uN_o e9]
        by_cases e8 : p' = o
        · rw [e8, uN_s]; rw [e8] at j3; omega
        · rw [uN_o e8]; exact j3
    · show 1 ≤ uN V.1.2.1 o (V.1.2.1 o + 1) q ∧ uN V.1.2.1 o (V.1.2.1 o + 1) q ≤ 9
      by_cases e9 : q = o
      · rw [e9, uN_s]; omega
      · rw [uN_o e9]; exact t6 q hq
/-! transfer -/
theorem a_move (hw : wO V w) (hc : zN V w τ) (hm : zG V 0 (σ.2 1)) (p1 p2 : Int32) : Act V [(1, -1), (2, -2), (3, -4), (4, -3)] τ σ (fX2_move τ p1 p2) (fX9_moves σ p1 p2) (PoMove V p1 p2) := by
  obtain ⟨hT, hL, hF, hK, hwK, hE, hB⟩ := hw
  have hA := hT.2.1
  obtain ⟨g1, g2, g3, g4, g5, g6, g7⟩ := hc
  obtain ⟨m1, m2, m3, m4, m5, m6, m7⟩ := hm
  unfold Act fX2_move fX9_moves
  rcases off_P (P := V.1.2.2.2.2) p1 with ⟨o, rfl, ho⟩ | hn
  rotate_left
  · rw [c_serves_f hT g1 hn, gx_b_some, if_pos rfl, m_is_f hT m1 hn, gx_b_some, if_pos rfl]
    exact Or.inl ⟨(1, -1), by simp, rfl, rfl⟩
  rw [c_serves_t hT g1 ho, gx_b_some, if_neg one0, m_is_t hT m1 ho, gx_b_some, if_neg one0]
  rcases off_P (P := V.1.2.2.2.2) p2 with ⟨s, rfl, hs⟩ | hn
  rotate_left
  · rw [c_serves_f hT g1 hn, gx_b_some, if_pos rfl, m_is_f hT m1 hn, gx_b_some, if_pos rfl]
    exact Or.inl ⟨(1, -1), by simp, rfl, rfl⟩
  have hoA := hv_lt hT ho
  have hsA := hv_lt hT hs
  have hR := hT.2.2.2.2.2 o hoA
  have hRs := hT.2.2.2.2.2 s hsA
  have go : gx_in (nI o) 12 := nI_in (by omega) (by decide)
  have gs : gx_in (nI s) 12 := nI_in (by omega) (by decide)
  rw [c_serves_t hT g1 hs, gx_b_some, if_neg one0, m_is_t hT m1 hs, gx_b_some, if_neg one0]
  by_cases c0 : o = 0
  · rw [if_pos (show nI o = (0 : Int32) from by rw [c0]; rfl), if_pos (show nI o = (0 : Int32) from by rw [c0]; rfl)]
    exact Or.inl ⟨(2, -2), by simp, rfl, rfl⟩
  have n0 : ¬ nI o = (0 : Int32) := fun q => c0 ((nI_eq (b := 0) (by omega) (by decide)).mp q)
  rw [if_neg n0, if_neg n0, n_eq (by omega) (by omega), n_eq (by omega) (by omega)]
  by_cases c1 : o = s
  · rw [if_pos c1, if_pos c1]
    exact Or.inl ⟨(2, -2), by simp, rfl, rfl⟩
  rw [if_neg c1, if_neg c1, c_over hT g1 (by omega) hsA, gx_b_some, m_above hT m1 (by omega) hsA, gx_b_some]
  by_cases c2 : o ∈ ch V.1.2.2.2.2 s
  · rw [ab_t c2, if_neg one0, if_neg one0]
    exact Or.inl ⟨(3, -4), by simp, rfl, rfl⟩
  rw [ab_f c2, if_pos rfl, if_pos rfl, gx_chk_t gs, gx_chk_t go, c_rnk hA g1 hoA, c_rnk hA g1 hsA, m_of1 hA m1 hsA, gx_b_some, m_of1 hA m1 hoA, gx_b_some, n_lt (by omega) (by omega), n_lt (by omega) (by omega)]
  by_cases c3 : V.1.2.1 o < V.1.2.1 s
  rotate_left
  · rw [if_neg c3, if_neg c3]
    exact Or.inl ⟨(4, -3), by simp, rfl, rfl⟩
  rw [if_pos c3, if_pos c3, gx_chk_t go, nI_clamp (by omega)]
  obtain ⟨p, e, hp⟩ := po_some hT ho c0
  have hh : ∀ q, hv (uN V.1.2.2.2.2 o (some s)) q = hv V.1.2.2.2.2 q := by
    intro q
    unfold hv
    by_cases e9 : q = o
    · rw [e9, uN_s, e]; simp
    · rw [uN_o e9]
  have hT' : wT V.1.1 V.1.2.1 (uN V.1.2.2.2.2 o (some s)) := by
    obtain ⟨t1, t2, t3, t4, t5, t6⟩ := hT
    refine ⟨t1, t2, ?_, fun q hq => ?_, fun q p' hp' => ?_, t6⟩
    · rw [uN_o (fun q => c0 q.symm)]; exact t3
    · rw [uN_o (by omega)]; exact t4 q hq
    · rw [hh]
      by_cases e9 : q = o
      · rw [e9, uN_s] at hp'
        cases hp'
        rw [e9]
        exact ⟨hsA, hs, c3⟩
      · rw [uN_o e9] at hp'
        exact t5 q p' hp'
  have hzO : zO V.1.1 V.1.2.1 V.1.2.2.1 V.1.2.2.2.1 (uN V.1.2.2.2.2 o (some s)) (os_sa τ.2.1 3 o (nI s)) := by
    refine ⟨g1.1, fun q hq => by rw [sa_j (by decide), hh]; exact g1.2.1 q hq, fun q hq => ?_⟩
    obtain ⟨r1, r2, r3, r4⟩ := g1.2.2 q hq
    rw [sa_j (q := 0) (by decide), sa_j (q := 1) (by decide), sa_j (q := 2) (by decide)]
    refine ⟨r1, r2, r3, ?_⟩
    by_cases e9 : q = o
    · rw [e9, sa_same, uN_s]; rfl
    · rw [sa_i e9, uN_o e9]; exact r4
  have q9 : ∀ i, i ≠ 7 + 5 * o + 4 → (os_sa σ 1 (7 + 5 * o + 4) (nI s)).2 1 i = σ.2 1 i := fun i hi => sa_i hi
  have hzM : zM V.1.1 V.1.2.1 V.1.2.2.1 V.1.2.2.2.1 (uN V.1.2.2.2.2 o (some s)) ((os_sa σ 1 (7 + 5 * o + 4) (nI s)).2 1) := by
    refine ⟨by rw [q9 0 (by omega)]; exact m1.1, fun q hq => ?_⟩
    obtain ⟨r0, r1, r2, r3, r4⟩ := m1.2 q hq
    rw [q9 _ (by omega), q9 (7 + 5 * q + 1) (by omega), q9 (7 + 5 * q + 2) (by omega), q9 (7 + 5 * q + 3) (by omega), hh]
    refine ⟨r0, r1, r2, r3, ?_⟩
    by_cases e9 : q = o
    · rw [e9, sa_same, uN_s]; rfl
    · rw [q9 _ (by omega), uN_o e9]; exact r4
  have hsz := siz_le (A := V.1.1) (P := uN V.1.2.2.2.2 o (some s)) hA s
  refine Or.inr ⟨((V.1.1, V.1.2.1, V.1.2.2.1, V.1.2.2.2.1, uN V.1.2.2.2.2 o (some s)), V.2), w, (τ.1, os_sa τ.2.1 3 o (nI s), τ.2.2), os_sf (os_sa σ 1 (7 + 5 * o + 4) (nI s)) 14 (nI (siz V.1.1 (uN V.1.2.2.2.2 o (some s)) s)), siz V.1.1 (uN V.1.2.2.2.2 o (some s)) s, ?_, ?_, by omega, hwK, ⟨hzO, g2, g3, g4, g5, g6, g7⟩, ⟨hzM, zS_mv hK m2 (fun i hi => q9 i (by omega)), zB_mv hB.1 m3 (fun i hi => q9 i (by omega)), (q9 1 (by omega)).trans m4, (q9 2 (by omega)).trans m5, (q9 3 (by omega)).trans m6, (q9 4 (by omega)).trans m7⟩, ?_, Nat.le_succ _, frm_14 fr1_sa, sf_same, o, s, rfl, rfl, ho, hs, c0, c1, c2, c3, rfl, rfl⟩
  · rw [c_size hT' hzO hsA, gx_b_some]
  · rw [show fX9_sets σ (nI o) (4 : Int32) (nI s) = _ from m_sets (w := 4) (by omega) (by omega), gx_b_some, m_cmd hT' hzM (by omega), gx_b_some]
    rfl
  · refine ⟨hT', hL, fun q hq => hF q ((hh q).symm.trans hq), hK, Nat.zero_le _, fun e' he' => ?_, hB⟩
    obtain ⟨j1, j2, j3⟩ := hE e' he'
    exact ⟨(hh e'.1).trans j1, j2, j3⟩
end Acts
