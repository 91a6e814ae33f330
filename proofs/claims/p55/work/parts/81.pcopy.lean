/-! the rows of numbers copied: by program (wip/gen/phist.py) -/
theorem m_rem7 : ∀ (d j n : Nat) (σ : OS), j + d = 131 → d < n → ∃ σ', fX9_remembers_7 n σ (nI j) = some σ' ∧ σ'.1 = σ.1 ∧ (∀ q, q ≠ 2 → σ'.2 q = σ.2 q) ∧ ∀ p, σ'.2 2 p = if j ≤ p ∧ p < 131 then σ.2 1 (p) else σ.2 2 p := by
  intro d
  induction d with
  | zero =>
    intro j n σ hj hn 
    obtain ⟨m, rfl⟩ : ∃ m, n = m + 1 := ⟨n - 1, by omega⟩
    refine ⟨σ, ?_, rfl, fun _ _ => rfl, fun p => by rw [if_neg (by omega)]⟩
    rw [fX9_remembers_7_s, if_pos (show (131 : Int32) ≤ nI j from (nI_leI (a := 131) (by decide) (by omega)).mpr (by omega))]
  | succ d ih =>
    intro j n σ hj hn 
    obtain ⟨m, rfl⟩ : ∃ m, n = m + 1 := ⟨n - 1, by omega⟩
    have gj : gx_in (nI j) 131 := nI_in (by omega) (by decide)
    have ej : (nI j).toNatClampNeg = j := nI_clamp (by omega)
    obtain ⟨σ', h1, h2, h3, h4⟩ := ih (j + 1) m (os_sa σ 2 (j) (σ.2 1 (j))) (by omega) (by omega)
    refine ⟨σ', ?_, h2, fun q hq => (h3 q hq).trans (sa_j hq), fun p => ?_⟩
    · rw [fX9_remembers_7_s, if_neg (show ¬ (131 : Int32) ≤ nI j from fun q => by have := (nI_leI (a := 131) (by decide) (by omega)).mp q; omega), gx_chk_t gj, gx_chk_t gj, ej, nI_1]
      exact h1
    · rw [h4 p]
      by_cases c : p = j
      · subst c
        rw [if_neg (by omega), if_pos (by omega), sa_same]
      · rw [sa_i c]
        by_cases c2 : j + 1 ≤ p ∧ p < 131
        · rw [if_pos c2, if_pos (by omega), sa_j (q := 1) (by decide)]
        · rw [if_neg c2, if_neg (by omega)]
theorem m_sav7 : ∀ (d j n : Nat) (σ : OS), j + d = 131 → d < n → ∃ σ', fX9_save_7 n σ (nI j) = gx_chk ((1 : Int32) = 0 ∨ (1 : Int32) = 1) (gx_b (fX9_many (os_sf σ' 6 (1 : Int32))) (fun r38 => some (r38, os_sf σ' 6 (1 : Int32)))) ∧ σ'.1 = σ.1 ∧ (∀ q, q ≠ 3 → σ'.2 q = σ.2 q) ∧ ∀ p, σ'.2 3 p = if j ≤ p ∧ p < 131 then σ.2 1 (p) else σ.2 3 p := by
  intro d
  induction d with
  | zero =>
    intro j n σ hj hn 
    obtain ⟨m, rfl⟩ : ∃ m, n = m + 1 := ⟨n - 1, by omega⟩
    refine ⟨σ, ?_, rfl, fun _ _ => rfl, fun p => by rw [if_neg (by omega)]⟩
    rw [fX9_save_7_s, if_pos (show (131 : Int32) ≤ nI j from (nI_leI (a := 131) (by decide) (by omega)).mpr (by omega))]
  | succ d ih =>
    intro j n σ hj hn 
    obtain ⟨m, rfl⟩ : ∃ m, n = m + 1 := ⟨n - 1, by omega⟩
    have gj : gx_in (nI j) 131 := nI_in (by omega) (by decide)
    have ej : (nI j).toNatClampNeg = j := nI_clamp (by omega)
    obtain ⟨σ', h1, h2, h3, h4⟩ := ih (j + 1) m (os_sa σ 3 (j) (σ.2 1 (j))) (by omega) (by omega)
    refine ⟨σ', ?_, h2, fun q hq => (h3 q hq).trans (sa_j hq), fun p => ?_⟩
    · rw [fX9_save_7_s, if_neg (show ¬ (131 : Int32) ≤ nI j from fun q => by have := (nI_leI (a := 131) (by decide) (by omega)).mp q; omega), gx_chk_t gj, gx_chk_t gj, ej, nI_1]
      exact h1
    · rw [h4 p]
      by_cases c : p = j
      · subst c
        rw [if_neg (by omega), if_pos (by omega), sa_same]
      · rw [sa_i c]
        by_cases c2 : j + 1 ≤ p ∧ p < 131
        · rw [if_pos c2, if_pos (by omega), sa_j (q := 1) (by decide)]
        · rw [if_neg c2, if_neg (by omega)]
theorem m_res20 : ∀ (d j n : Nat) (σ : OS), j + d = 131 → d < n → ∃ σ', fX9_restore_20 n σ (nI j) = gx_b (fX9_many (os_sf σ' 5 (0 : Int32))) (fun r51 => some (r51, os_sf σ' 5 (0 : Int32))) ∧ σ'.1 = σ.1 ∧ (∀ q, q ≠ 1 → σ'.2 q = σ.2 q) ∧ ∀ p, σ'.2 1 p = if j ≤ p ∧ p < 131 then σ.2 3 (p) else σ.2 1 p := by
  intro d
  induction d with
  | zero =>
    intro j n σ hj hn 
    obtain ⟨m, rfl⟩ : ∃ m, n = m + 1 := ⟨n - 1, by omega⟩
    refine ⟨σ, ?_, rfl, fun _ _ => rfl, fun p => by rw [if_neg (by omega)]⟩
    rw [fX9_restore_20_s, if_pos (show (131 : Int32) ≤ nI j from (nI_leI (a := 131) (by decide) (by omega)).mpr (by omega))]
  | succ d ih =>
    intro j n σ hj hn 
    obtain ⟨m, rfl⟩ : ∃ m, n = m + 1 := ⟨n - 1, by omega⟩
    have gj : gx_in (nI j) 131 := nI_in (by omega) (by decide)
    have ej : (nI j).toNatClampNeg = j := nI_clamp (by omega)
    obtain ⟨σ', h1, h2, h3, h4⟩ := ih (j + 1) m (os_sa σ 1 (j) (σ.2 3 (j))) (by omega) (by omega)
    refine ⟨σ', ?_, h2, fun q hq => (h3 q hq).trans (sa_j hq), fun p => ?_⟩
    · rw [fX9_restore_20_s, if_neg (show ¬ (131 : Int32) ≤ nI j from fun q => by have := (nI_leI (a := 131) (by decide) (by omega)).mp q; omega), gx_chk_t gj, gx_chk_t gj, ej, nI_1]
      exact h1
    · rw [h4 p]
      by_cases c : p = j
      · subst c
        rw [if_neg (by omega), if_pos (by omega), sa_same]
      · rw [sa_i c]
        by_cases c2 : j + 1 ≤ p ∧ p < 131
        · rw [if_pos c2, if_pos (by omega), sa_j (q := 3) (by decide)]
        · rw [if_neg c2, if_neg (by omega)]
theorem m_run125 (v1 : Int32) : ∀ (d j n : Nat) (σ : OS), j + d = 131 → d < n → ∃ σ', fX9_runCommands_125 n σ v1 (nI j) = gx_b (fX9_fails (os_sf σ' 13 v1) (2 : Int32)) (fun r157 => some (r157.1, r157.2)) ∧ σ'.1 = σ.1 ∧ (∀ q, q ≠ 1 → σ'.2 q = σ.2 q) ∧ ∀ p, σ'.2 1 p = if j ≤ p ∧ p < 131 then σ.2 2 (p) else σ.2 1 p := by
  intro d
  induction d with
  | zero =>
    intro j n σ hj hn 
    obtain ⟨m, rfl⟩ : ∃ m, n = m + 1 := ⟨n - 1, by omega⟩
    refine ⟨σ, ?_, rfl, fun _ _ => rfl, fun p => by rw [if_neg (by omega)]⟩
    rw [fX9_runCommands_125_s, if_pos (show (131 : Int32) ≤ nI j from (nI_leI (a := 131) (by decide) (by omega)).mpr (by omega))]
  | succ d ih =>
    intro j n σ hj hn 
    obtain ⟨m, rfl⟩ : ∃ m, n = m + 1 := ⟨n - 1, by omega⟩
    have gj : gx_in (nI j) 131 := nI_in (by omega) (by decide)
    have ej : (nI j).toNatClampNeg = j := nI_clamp (by omega)
    obtain ⟨σ', h1, h2, h3, h4⟩ := ih (j + 1) m (os_sa σ 1 (j) (σ.2 2 (j))) (by omega) (by omega)
    refine ⟨σ', ?_, h2, fun q hq => (h3 q hq).trans (sa_j hq), fun p => ?_⟩
    · rw [fX9_runCommands_125_s, if_neg (show ¬ (131 : Int32) ≤ nI j from fun q => by have := (nI_leI (a := 131) (by decide) (by omega)).mp q; omega), gx_chk_t gj, gx_chk_t gj, ej, nI_1]
      exact h1
    · rw [h4 p]
      by_cases c : p = j
      · subst c
        rw [if_neg (by omega), if_pos (by omega), sa_same]
      · rw [sa_i c]
        by_cases c2 : j + 1 ≤ p ∧ p < 131
        · rw [if_pos c2, if_pos (by omega), sa_j (q := 2) (by decide)]
        · rw [if_neg c2, if_neg (by omega)]
theorem m_und30 {k : Nat} (hk : k < 8) : ∀ (d j n : Nat) (σ : OS), j + d = 131 → d < n → σ.1 5 = nI k → ∃ σ', fX9_undo_30 n σ (nI j) = some (os_f σ' 5, σ') ∧ σ'.1 = σ.1 ∧ (∀ q, q ≠ 1 → σ'.2 q = σ.2 q) ∧ ∀ p, σ'.2 1 p = if j ≤ p ∧ p < 131 then σ.2 4 (131 * k + p) else σ.2 1 p := by
  intro d
  induction d with
  | zero =>
    intro j n σ hj hn h5
    obtain ⟨m, rfl⟩ : ∃ m, n = m + 1 := ⟨n - 1, by omega⟩
    refine ⟨σ, ?_, rfl, fun _ _ => rfl, fun p => by rw [if_neg (by omega)]⟩
    rw [fX9_undo_30_s, if_pos (show (131 : Int32) ≤ nI j from (nI_leI (a := 131) (by decide) (by omega)).mpr (by omega))]
  | succ d ih =>
    intro j n σ hj hn h5
    obtain ⟨m, rfl⟩ : ∃ m, n = m + 1 := ⟨n - 1, by omega⟩
    have gj : gx_in (nI j) 131 := nI_in (by omega) (by decide)
    have ej : (nI j).toNatClampNeg = j := nI_clamp (by omega)
    have ek : ((131 : Int32) * nI k) + nI j = nI (131 * k + j) := by rw [show (131 : Int32) = nI 131 from rfl, n_mul, nI_add]
    have gk : gx_in (nI (131 * k + j)) 1048 := nI_in (by omega) (by decide)
    have ekk : (nI (131 * k + j)).toNatClampNeg = 131 * k + j := nI_clamp (by omega)
    obtain ⟨σ', h1, h2, h3, h4⟩ := ih (j + 1) m (os_sa σ 1 (j) (σ.2 4 (131 * k + j))) (by omega) (by omega) h5
    refine ⟨σ', ?_, h2, fun q hq => (h3 q hq).trans (sa_j hq), fun p => ?_⟩
    · rw [fX9_undo_30_s, if_neg (show ¬ (131 : Int32) ≤ nI j from fun q => by have := (nI_leI (a := 131) (by decide) (by omega)).mp q; omega), show os_f σ 5 = nI k from h5, ek, gx_chk_t gk, gx_chk_t gj, ej, ekk, nI_1]
      exact h1
    · rw [h4 p]
      by_cases c : p = j
      · subst c
        rw [if_neg (by omega), if_pos (by omega), sa_same]
      · rw [sa_i c]
        by_cases c2 : j + 1 ≤ p ∧ p < 131
        · rw [if_pos c2, if_pos (by omega), sa_j (q := 4) (by decide)]
        · rw [if_neg c2, if_neg (by omega)]
theorem m_chg55 (v1 : Int32) {k : Nat} (hk : k < 8) : ∀ (d j n : Nat) (σ : OS), j + d = 131 → d < n → σ.1 5 = nI (k + 1) → ∃ σ', fX9_changed_55 n σ v1 (nI j) = some (v1, σ') ∧ σ'.1 = σ.1 ∧ (∀ q, q ≠ 4 → σ'.2 q = σ.2 q) ∧ ∀ p, σ'.2 4 p = if 131 * k + j ≤ p ∧ p < 131 * k + 131 then σ.2 2 ((p - 131 * k)) else σ.2 4 p := by
  intro d
  induction d with
  | zero =>
    intro j n σ hj hn h5
    obtain ⟨m, rfl⟩ : ∃ m, n = m + 1 := ⟨n - 1, by omega⟩
    refine ⟨σ, ?_, rfl, fun _ _ => rfl, fun p => by rw [if_neg (by omega)]⟩
    rw [fX9_changed_55_s, if_pos (show (131 : Int32) ≤ nI j from (nI_leI (a := 131) (by decide) (by omega)).mpr (by omega))]
  | succ d ih =>
    intro j n σ hj hn h5
    obtain ⟨m, rfl⟩ : ∃ m, n = m + 1 := ⟨n - 1, by omega⟩
    have gj : gx_in (nI j) 131 := nI_in (by omega) (by decide)
    have ej : (nI j).toNatClampNeg = j := nI_clamp (by omega)
    have ek : ((131 : Int32) * nI k) + nI j = nI (131 * k + j) := by rw [show (131 : Int32) = nI 131 from rfl, n_mul, nI_add]
    have gk : gx_in (nI (131 * k + j)) 1048 := nI_in (by omega) (by decide)
    have ekk : (nI (131 * k + j)).toNatClampNeg = 131 * k + j := nI_clamp (by omega)
    obtain ⟨σ', h1, h2, h3, h4⟩ := ih (j + 1) m (os_sa σ 4 (131 * k + j) (σ.2 2 (j))) (by omega) (by omega) h5
    refine ⟨σ', ?_, h2, fun q hq => (h3 q hq).trans (sa_j hq), fun p => ?_⟩
    · rw [fX9_changed_55_s, if_neg (show ¬ (131 : Int32) ≤ nI j from fun q => by have := (nI_leI (a := 131) (by decide) (by omega)).mp q; omega), show os_f σ 5 = nI (k + 1) from h5, nI_pred, ek, gx_chk_t gj, gx_chk_t gk, ej, ekk, nI_1]
      exact h1
    · rw [h4 p]
      by_cases c : p = 131 * k + j
      · subst c
        rw [if_neg (by omega), if_pos (by omega), sa_same]
        exact congrArg (σ.2 2) (by omega)
      · rw [sa_i c]
        by_cases c2 : 131 * k + (j + 1) ≤ p ∧ p < 131 * k + 131
        · rw [if_pos c2, if_pos (by omega), sa_j (q := 2) (by decide)]
        · rw [if_neg c2, if_neg (by omega)]
theorem m_chg11 (v1 : Int32) : ∀ (d j n : Nat) (σ : OS), j + d = 917 → d < n → ∃ σ', fX9_changed_11 n σ v1 (nI j) = fX9_changed_55 2000 σ' v1 (0 : Int32) ∧ σ'.1 = σ.1 ∧ (∀ q, q ≠ 4 → σ'.2 q = σ.2 q) ∧ ∀ p, σ'.2 4 p = if j ≤ p ∧ p < 917 then σ.2 4 (p + 131) else σ.2 4 p := by
  intro d
  induction d with
  | zero =>
    intro j n σ hj hn
    obtain ⟨m, rfl⟩ : ∃ m, n = m + 1 := ⟨n - 1, by omega⟩
    refine ⟨σ, ?_, rfl, fun _ _ => rfl, fun p => by rw [if_neg (by omega)]⟩
    rw [fX9_changed_11_s, if_pos (show (917 : Int32) ≤ nI j from (nI_leI (a := 917) (by decide) (by omega)).mpr (by omega))]
  | succ d ih =>
    intro j n σ hj hn
    obtain ⟨m, rfl⟩ : ∃ m, n = m + 1 := ⟨n - 1, by omega⟩
    have gj : gx_in (nI j) 1048 := nI_in (by omega) (by decide)
    have gk : gx_in (nI (j + 131)) 1048 := nI_in (by omega) (by decide)
    have e1 : nI j + (131 : Int32) = nI (j + 131) := nI_add j 131
    obtain ⟨σ', h1, h2, h3, h4⟩ := ih (j + 1) m (os_sa σ 4 j (σ.2 4 (j + 131))) (by omega) (by omega)
    refine ⟨σ', ?_, h2, fun q hq => (h3 q hq).trans (sa_j hq), fun p => ?_⟩
    · rw [fX9_changed_11_s, if_neg (show ¬ (917 : Int32) ≤ nI j from fun q => by have := (nI_leI (a := 917) (by decide) (by omega)).mp q; omega), e1, gx_chk_t gk, gx_chk_t gj, nI_clamp (by omega), nI_clamp (by omega), nI_1]
      exact h1
    · rw [h4 p]
      by_cases c : p = j
      · subst c
        rw [if_neg (by omega), if_pos (by omega), sa_same]
      · rw [sa_i c]
        by_cases c2 : j + 1 ≤ p ∧ p < 917
        · rw [if_pos c2, if_pos (by omega), sa_i (by omega)]
        · rw [if_neg c2, if_neg (by omega)]
theorem zG_mv {V : AN} {w : Nat} {s s' : Nat → Int32} (hw : wO V w) {w' : Nat} (h : zG V w' s) (q : ∀ i, i < 131 → s' i = s i) : zG V w' s' := by
  obtain ⟨m1, m2, m3, m4, m5, m6, m7⟩ := h
  exact ⟨zM_mv hw.1.2.1 m1 (fun i hi => q i (by omega)), zS_mv hw.2.2.2.1 m2 (fun i hi => q i (by omega)), zB_mv hw.2.2.2.2.2.2.1 m3 (fun i hi => q i (by omega)), (q 1 (by omega)).trans m4, (q 2 (by omega)).trans m5, (q 3 (by omega)).trans m6, (q 4 (by omega)).trans m7⟩
/-! the class's copies -/
theorem nar_b (b : Bool) : vp_nar .boolean (b1 b) = b1 b := by cases b <;> decide
theorem c_cp62 {τ : OS} {P : Nat → Option Nat} (h4 : ∀ o, o < 12 → τ.2 4 o = b1 (hv P o)) : ∀ (d j n : Nat) (σ : OS), j + d = 12 → d < n → ∃ σ', fX3_copyFrom_62 n (σ, τ) (nI j) = some (os_sf σ' 5 (os_f τ 5), τ) ∧ σ'.1 = σ.1 ∧ (∀ q, q ≠ 4 → σ'.2 q = σ.2 q) ∧ ∀ o, o < 12 → σ'.2 4 o = if j ≤ o then τ.2 4 o else σ.2 4 o := by
  intro d
  induction d with
  | zero =>
    intro j n σ hj hn
    obtain ⟨m, rfl⟩ : ∃ m, n = m + 1 := ⟨n - 1, by omega⟩
    refine ⟨σ, ?_, rfl, fun _ _ => rfl, fun o ho => by rw [if_neg (by omega)]⟩
    rw [fX3_copyFrom_62_s, if_pos (show (12 : Int32) ≤ nI j from (nI_leI (a := 12) (by decide) (by omega)).mpr (by omega))]
  | succ d ih =>
    intro j n σ hj hn
    obtain ⟨m, rfl⟩ : ∃ m, n = m + 1 := ⟨n - 1, by omega⟩
    have gj : gx_in (nI j) 12 := nI_in (by omega) (by decide)
    have ej : (nI j).toNatClampNeg = j := nI_clamp (by omega)
    obtain ⟨σ', h1, h2, h3, h4'⟩ := ih (j + 1) m (os_sa σ 4 j (τ.2 4 j)) (by omega) (by omega)
    refine ⟨σ', ?_, h2, fun q hq => (h3 q hq).trans (sa_j hq), fun o ho => ?_⟩
    · rw [fX3_copyFrom_62_s, if_neg (show ¬ (12 : Int32) ≤ nI j from fun q => by have := (nI_leI (a := 12) (by decide) (by omega)).mp q; omega), gx_chk_t gj, gx_chk_t gj, ej, nI_1]
      show fX3_copyFrom_62 m (os_sa σ 4 j (vp_nar .boolean (τ.2 4 j)), τ) (nI (j + 1)) = _
      rw [show vp_nar .boolean (τ.2 4 j) = τ.2 4 j by rw [h4 j (by omega), nar_b]]
      exact h1
    · rw [h4' o ho]
      by_cases c : o = j
      · subst c
        rw [if_neg (by omega), if_pos (by omega), sa_same]
      · rw [sa_i c]
        by_cases c2 : j + 1 ≤ o
        · rw [if_pos c2, if_pos (by omega)]
        · rw [if_neg c2, if_neg (by omega)]
theorem cp_in {τ σ : OS} {j i N k : Nat} (hk : k < N) : (os_cp τ j σ i N).2 i k = τ.2 j k := by
  simp [os_cp, va_cpy, hk]
theorem cp_o {τ σ : OS} {j i N q : Nat} (hq : q ≠ i) : (os_cp τ j σ i N).2 q = σ.2 q := by
  simp [os_cp, hq]
theorem cp_f {τ σ : OS} {j i N : Nat} : (os_cp τ j σ i N).1 = σ.1 := rfl
theorem c_copy {V : AN} {w w' : Nat} (a : NS) {b : NS} (hw : wO V w') (h : zN V w b) : ∃ a', fX2_copyFrom (a, b) = some (a', b) ∧ zN V w a' := by
  obtain ⟨hT, hL, hF, hK, hwK, hE, hB⟩ := hw
  obtain ⟨g1, g2, ⟨C, hp, gl, ga⟩, g4, g5, g6, g7⟩ := h
  have hA := hT.2.1
  have hlen := hp.length_eq
  have hB20 := hB.1
  obtain ⟨σ', o1, o2, o3, o4⟩ := c_cp62 (τ := b.2.1) g1.2.1 12 0 2000 (os_cp b.2.1 3 (os_cp b.2.1 2 (os_cp b.2.1 1 (os_cp b.2.1 0 a.2.1 0 12) 1 12) 2 12) 3 12) (by omega) (by omega)
  refine ⟨(os_sf (os_sf (os_sf (os_sf a.1 3 (os_f b.1 3)) 4 (os_f b.1 4)) 5 (os_f b.1 5)) 6 (os_f b.1 6), (os_sf σ' 5 (os_f b.2.1 5), os_sf (os_sf (os_cp b.2.2.1 2 (os_cp b.2.2.1 1 (os_cp b.2.2.1 0 a.2.2.1 0 6) 1 6) 2 6) 3 (os_f b.2.2.1 3)) 4 (os_f b.2.2.1 4), os_sf (os_cp b.2.2.2 1 (os_cp b.2.2.2 0 a.2.2.2 0 20) 1 20) 2 (os_f b.2.2.2 2))), ?_, ⟨?_, fun o ho => ?_, fun o ho => ?_⟩, ⟨?_, ?_, fun k e he => ?_⟩, ⟨C, hp, ?_, fun k e he => ?_⟩, ?_, ?_, ?_, ?_⟩
  · unfold fX2_copyFrom fX3_copyFrom
    rw [show (0 : Int32) = nI 0 from rfl, o1, gx_b_some]
    rfl
  · show (os_sf σ' 5 (os_f b.2.1 5)).1 5 = _
    rw [sf_same]; exact g1.1
  · show σ'.2 4 o = _
    rw [o4 o ho, if_pos (Nat.zero_le _)]; exact g1.2.1 o ho
  · have ho2 : o < 12 := by
      have : o < V.1.1 := ho
      omega
    show σ'.2 0 o = _ ∧ σ'.2 1 o = _ ∧ σ'.2 2 o = _ ∧ σ'.2 3 o = _
    rw [o3 0 (by decide), o3 1 (by decide), o3 2 (by decide), o3 3 (by decide), cp_in (i := 3) ho2, cp_o (i := 3) (q := 0) (by decide), cp_o (i := 3) (q := 1) (by decide), cp_o (i := 3) (q := 2) (by decide), cp_in (i := 2) ho2, cp_o (i := 2) (q := 0) (by decide), cp_o (i := 2) (q := 1) (by decide), cp_in (i := 1) ho2, cp_o (i := 1) (q := 0) (by decide), cp_in (i := 0) ho2]
    exact g1.2.2 o ho
  · show (os_sf (os_sf _ 3 (os_f b.2.2.1 3)) 4 (os_f b.2.2.1 4)).1 3 = _
    rw [sf_k (by decide), sf_same]; exact g2.1
  · show (os_sf (os_sf _ 3 (os_f b.2.2.1 3)) 4 (os_f b.2.2.1 4)).1 4 = _
    rw [sf_same]; exact g2.2.1
  · have hk := get_lt he
    have hk6 : k < 6 := by omega
    show (os_cp b.2.2.1 2 (os_cp b.2.2.1 1 (os_cp b.2.2.1 0 a.2.2.1 0 6) 1 6) 2 6).2 0 k = _ ∧ (os_cp b.2.2.1 2 (os_cp b.2.2.1 1 (os_cp b.2.2.1 0 a.2.2.1 0 6) 1 6) 2 6).2 1 k = _ ∧ (os_cp b.2.2.1 2 (os_cp b.2.2.1 1 (os_cp b.2.2.1 0 a.2.2.1 0 6) 1 6) 2 6).2 2 k = _
    rw [cp_in (i := 2) hk6, cp_o (i := 2) (q := 0) (by decide), cp_o (i := 2) (q := 1) (by decide), cp_in (i := 1) hk6, cp_o (i := 1) (q := 0) (by decide), cp_in (i := 0) hk6]
    exact g2.2.2 k e he
  · show (os_sf _ 2 (os_f b.2.2.2 2)).1 2 = _
    rw [sf_same]; exact gl
  · have hk := get_lt he
    have hk20 : k < 20 := by omega
    show (os_cp b.2.2.2 1 (os_cp b.2.2.2 0 a.2.2.2 0 20) 1 20).2 0 k = _ ∧ (os_cp b.2.2.2 1 (os_cp b.2.2.2 0 a.2.2.2 0 20) 1 20).2 1 k = _
    rw [cp_in (i := 1) hk20, cp_o (i := 1) (q := 0) (by decide), cp_in (i := 0) hk20]
    exact ga k e he
  · show (os_sf (os_sf (os_sf (os_sf a.1 3 (os_f b.1 3)) 4 (os_f b.1 4)) 5 (os_f b.1 5)) 6 (os_f b.1 6)).1 3 = _
    rw [sf_k (by decide), sf_k (by decide), sf_k (by decide), sf_same]; exact g4
  · show (os_sf (os_sf (os_sf (os_sf a.1 3 (os_f b.1 3)) 4 (os_f b.1 4)) 5 (os_f b.1 5)) 6 (os_f b.1 6)).1 4 = _
    rw [sf_k (by decide), sf_k (by decide), sf_same]; exact g5
  · show (os_sf (os_sf (os_sf (os_sf a.1 3 (os_f b.1 3)) 4 (os_f b.1 4)) 5 (os_f b.1 5)) 6 (os_f b.1 6)).1 5 = _
    rw [sf_k (by decide), sf_same]; exact g6
  · show (os_sf (os_sf (os_sf (os_sf a.1 3 (os_f b.1 3)) 4 (os_f b.1 4)) 5 (os_f b.1 5)) 6 (os_f b.1 6)).1 6 = _
    rw [sf_same]; exact g7
