/-! the reference's visit of an order; an hour; hours -/
section Hour2
variable {A : Nat} {R L F : Nat → Nat} {P : Nat → Option Nat} {σ : OS} {V : AN} {w : Nat}
def zP (V : AN) (w : Nat) (s : Nat → Int32) : Prop := zM V.1.1 V.1.2.1 V.1.2.2.1 V.1.2.2.2.1 V.1.2.2.2.2 s ∧ zS V.2.1 w s ∧ zB V.2.2.1 s
theorem zM_mv {s s' : Nat → Int32} (hA : A ≤ 12) (h : zM A R L F P s) (q : ∀ i, i = 0 ∨ (7 ≤ i ∧ i < 67) → s' i = s i) : zM A R L F P s' := by
  refine ⟨by rw [q 0 (Or.inl rfl)]; exact h.1, fun o ho => ?_⟩
  rw [q _ (Or.inr ⟨by omega, by omega⟩), q _ (Or.inr ⟨by omega, by omega⟩), q _ (Or.inr ⟨by omega, by omega⟩), q _ (Or.inr ⟨by omega, by omega⟩), q _ (Or.inr ⟨by omega, by omega⟩)]
  exact h.2 o ho
theorem zS_mv {K : List ON} {s s' : Nat → Int32} (hK : K.length ≤ 6) (h : zS K w s) (q : ∀ i, i = 5 ∨ (67 ≤ i ∧ i < 91) → s' i = s i) : zS K w s' := by
  refine ⟨by rw [q 5 (Or.inl rfl)]; exact h.1, fun k e he => ?_⟩
  have := get_lt he
  rw [q _ (Or.inr ⟨by omega, by omega⟩), q _ (Or.inr ⟨by omega, by omega⟩), q _ (Or.inr ⟨by omega, by omega⟩), q _ (Or.inr ⟨by omega, by omega⟩)]
  exact h.2 k e he
theorem zB_mv {B : List (Nat × Nat)} {s s' : Nat → Int32} (hB : B.length ≤ 20) (h : zB B s) (q : ∀ i, i = 6 ∨ (91 ≤ i ∧ i < 131) → s' i = s i) : zB B s' := by
  refine ⟨by rw [q 6 (Or.inl rfl)]; exact h.1, fun k e he => ?_⟩
  have := get_lt he
  rw [q _ (Or.inr ⟨by omega, by omega⟩), q _ (Or.inr ⟨by omega, by omega⟩)]
  exact h.2 k e he
theorem zM_F (hA : A ≤ 12) {n v : Nat} (hn : n < A) (h : zM A R L F P (σ.2 1)) : zM A R L (uN F n v) P ((os_sa σ 1 (7 + 5 * n + 3) (nI v)).2 1) := by
  refine ⟨by rw [sa_i (by omega)]; exact h.1, fun q hq => ?_⟩
  obtain ⟨p0, p1, p2, p3, p4⟩ := h.2 q hq
  simp only [sa_off (show 3 < 5 by decide) (show 0 < 5 by decide), sa_off (show 3 < 5 by decide) (show 1 < 5 by decide), sa_off (show 3 < 5 by decide) (show 2 < 5 by decide), sa_off (show 3 < 5 by decide) (show 3 < 5 by decide), sa_off (show 3 < 5 by decide) (show 4 < 5 by decide), p0, p1, p2, p3, p4]
  by_cases e : q = n
  · subst e
    rw [uN_s]
    simp
  · rw [uN_o e]
    simp [e]
theorem zM_L (hA : A ≤ 12) {n v : Nat} (hn : n < A) (h : zM A R L F P (σ.2 1)) : zM A R (uN L n v) F P ((os_sa σ 1 (7 + 5 * n + 2) (nI v)).2 1) := by
  refine ⟨by rw [sa_i (by omega)]; exact h.1, fun q hq => ?_⟩
  obtain ⟨p0, p1, p2, p3, p4⟩ := h.2 q hq
  simp only [sa_off (show 2 < 5 by decide) (show 0 < 5 by decide), sa_off (show 2 < 5 by decide) (show 1 < 5 by decide), sa_off (show 2 < 5 by decide) (show 2 < 5 by decide), sa_off (show 2 < 5 by decide) (show 3 < 5 by decide), sa_off (show 2 < 5 by decide) (show 4 < 5 by decide), p0, p1, p2, p3, p4]
  by_cases e : q = n
  · subst e
    rw [uN_s]
    simp
  · rw [uN_o e]
    simp [e]
theorem zS_E {K : List ON} {k : Nat} {s : Nat → Int32} (h : zS (del1 k (K, k + 1)).1 (del1 k (K, k + 1)).2 s) : zS (K.eraseIdx k) k s := by
  have e : (del1 k (K, k + 1)).2 = k := by simp [del1]
  rw [e] at h
  exact h
theorem zS_see {K : List ON} {s : Nat → Int32} (h : zS K w (σ.2 1)) (hw : w < 6) : zS K (w + 1) ((os_sa σ 1 (67 + 4 * w + 3) 1).2 1) := by
  refine ⟨by rw [sa_i (by omega)]; exact h.1, fun k e he => ?_⟩
  obtain ⟨p1, p2, p3, p4⟩ := h.2 k e he
  rw [sa_i (by omega), sa_i (by omega), sa_i (by omega)]
  refine ⟨p1, p2, p3, ?_⟩
  by_cases e9 : k = w
  · subst e9
    rw [sa_same, if_pos (by omega)]
  · rw [sa_i (by omega), p4]
    by_cases e8 : k < w
    · rw [if_pos e8, if_pos (by omega)]
    · rw [if_neg e8, if_neg (by omega)]
/-- the order at w, seen, is dropped -/
theorem m_dropE {σ : OS} (hw : wO V w) (hlt : w < V.2.1.length) (h1 : zM V.1.1 V.1.2.1 V.1.2.2.1 V.1.2.2.2.1 V.1.2.2.2.2 (σ.2 1)) (h2 : zS V.2.1 (w + 1) (σ.2 1)) (h3 : zB V.2.2.1 (σ.2 1)) : ∃ σ', fX9_drops σ (nI w) = some σ' ∧ fr1 σ σ' ∧ zM V.1.1 V.1.2.1 V.1.2.2.1 V.1.2.2.2.1 V.1.2.2.2.2 (σ'.2 1) ∧ zS (V.2.1.eraseIdx w) w (σ'.2 1) ∧ zB V.2.2.1 (σ'.2 1) ∧ ∀ i, i = 1 ∨ i = 2 ∨ i = 3 ∨ i = 4 → σ'.2 1 i = σ.2 1 i := by
  obtain ⟨hT, hL, hF, hK, hwK, hE, hB⟩ := hw
  obtain ⟨σ', d1, d2, d3, d4⟩ := m_drop hK hlt (show w + 1 ≤ V.2.1.length by omega) h2
  refine ⟨σ', d1, d2, zM_mv hT.2.1 h1 (fun i hi => d4 i (by omega) (by omega)), zS_E d3, zB_mv hB.1 h3 (fun i hi => d4 i (by omega) (by omega)), fun i hi => d4 i (by omega) (by omega)⟩
theorem m_leave' {V : AN} {w : Nat} {σ : OS} {o : Nat} (hT : wT V.1.1 V.1.2.1 V.1.2.2.2.2) (hK : V.2.1.length ≤ 6) (hwK : w ≤ V.2.1.length) (hE : ∀ e ∈ V.2.1, hv V.1.2.2.2.2 e.1 = true) (hB : V.2.2.1.length ≤ 20) (ho : hv V.1.2.2.2.2 o = true) (h0 : o ≠ 0) (h : zG V w (σ.2 1)) : ∃ σ', fX9_leaves σ (nI o) = some (nI (sr (fun q => i1 (V.1.2.2.2.2 q = some o)) 0 V.1.1), σ') ∧ fr1 σ σ' ∧ zG (lvs o V w).1 (lvs o V w).2 (σ'.2 1) := by
  have hA := hT.2.1
  have hoA := hv_lt hT ho
  obtain ⟨g1, g2, g3, g4, g5, g6, g7⟩ := h
  obtain ⟨σ1, r1, r2, r3, r4⟩ := m_lv16 hT ho h0 (nI (sr (fun q => i1 (V.1.2.2.2.2 q = some o)) 0 V.1.1)) V.1.1 0 2000 σ (by omega) (by omega) (by rw [dP_0]; exact g1)
  have hS1 : zS V.2.1 w (σ1.2 1) := zS_mv hK g2 (fun i hi => r4 i (by omega))
  obtain ⟨σ', d1, d2, d3, d4, d5⟩ := m_dis87 (o := o) (by omega) (nI (sr (fun q => i1 (V.1.2.2.2.2 q = some o)) 0 V.1.1)) V.2.1.length 2000 (V.2.1, w) V.2.2.2.2.2.2 σ1 hK (Nat.le_refl _) hwK (fun e he => by have := hv_lt hT (hE e he); omega) (by omega) hS1 (by rw [r4 4 (by omega)]; exact g7)
  refine ⟨σ', ?_, fr1_tr r2 d4, zM_mv hA r3 (fun i hi => d5 i (by omega) (by omega) (by omega)), d2, ?_, ?_, ?_, ?_, d3⟩
  · unfold fX9_leaves
    rw [m_under hT g1 (by omega), gx_b_some, m_of4 hA g1 hoA, gx_b_some, show (0 : Int32) = nI 0 from rfl, r1, show σ.2 1 5 = nI V.2.1.length from g2.1, dn_l]
    exact d1
  · exact zB_mv hB g3 (fun i hi => (d5 i (by omega) (by omega) (by omega)).trans (r4 i (by omega)))
  · rw [d5 1 (by omega) (by omega) (by omega), r4 1 (by omega)]; exact g4
  · rw [d5 2 (by omega) (by omega) (by omega), r4 2 (by omega)]; exact g5
  · rw [d5 3 (by omega) (by omega) (by omega), r4 3 (by omega)]; exact g6
theorem m_lost46 {σ : OS} (hw : wO V w) (hlt : w < V.2.1.length) (h1 : zM V.1.1 V.1.2.1 V.1.2.2.1 V.1.2.2.2.1 V.1.2.2.2.2 (σ.2 1)) (h2 : zS V.2.1 (w + 1) (σ.2 1)) (h3 : zB V.2.2.1 (σ.2 1)) (g4 : σ.2 1 1 = V.2.2.2.1) (g5 : σ.2 1 2 = nI V.2.2.2.2.1) (g6 : σ.2 1 3 = nI V.2.2.2.2.2.1) (g7 : σ.2 1 4 = nI V.2.2.2.2.2.2) : ∃ σ', fX9_visits_46 σ (nI w) = some (1, σ') ∧ fr1 σ σ' ∧ zG (vLost V w) w (σ'.2 1) := by
  have hA := hw.1.2.1
  have q : ∀ i, i ≠ 4 → (os_sa σ 1 4 (nI (V.2.2.2.2.2.2 + 1))).2 1 i = σ.2 1 i := fun i hi => sa_i hi
  obtain ⟨σ', d1, d2, d3, d4, d5, d6⟩ := m_dropE (σ := os_sa σ 1 4 (nI (V.2.2.2.2.2.2 + 1))) hw hlt (zM_mv hA h1 (fun i hi => q i (by omega))) (zS_mv hw.2.2.2.1 h2 (fun i hi => q i (by omega))) (zB_mv hw.2.2.2.2.2.2.1 h3 (fun i hi => q i (by omega)))
  refine ⟨σ', ?_, fr1_tr fr1_sa d2, d3, d4, d5, ?_, ?_, ?_, ?_⟩
  · unfold fX9_visits_46
    rw [gx_chk_t gi4, gx_chk_t gi4, tc4, show os_a σ 1 4 = nI V.2.2.2.2.2.2 from g7, nI_1, d1, gx_b_some]
  · rw [d6 1 (by omega), q 1 (by omega)]; exact g4
  · rw [d6 2 (by omega), q 2 (by omega)]; exact g5
  · rw [d6 3 (by omega), q 3 (by omega)]; exact g6
  · rw [d6 4 (by omega), sa_same]; rfl
theorem m_vis {σ : OS} (hw : wO V w) (hlt : w < V.2.1.length) (h : zG V w (σ.2 1)) : ∃ r σ', fX9_visits σ (nI w) = some (r, σ') ∧ fr1 σ σ' ∧ zG (vis1 V w).1 (vis1 V w).2 (σ'.2 1) := by
  obtain ⟨e, he⟩ := lt_get hlt
  have hw0 := hw
  obtain ⟨hT, hL, hF, hK, hwK, hE, hB⟩ := hw
  have hA := hT.2.1
  obtain ⟨e1, e2, e3⟩ := hE e (List.mem_of_getElem? he)
  obtain ⟨g1, g2, g3, g4, g5, g6, g7⟩ := h
  have e1A := hv_lt hT e1
  obtain ⟨k1, k2, k3, k4⟩ := g2.2 w e he
  have q : ∀ i, i ≠ 67 + 4 * w + 3 → (os_sa σ 1 (67 + 4 * w + 3) 1).2 1 i = σ.2 1 i := fun i hi => sa_i hi
  have hs0 : fr1 σ (os_sa σ 1 (67 + 4 * w + 3) 1) := fr1_sa
  have a1 := zM_mv hA g1 (s' := (os_sa σ 1 (67 + 4 * w + 3) 1).2 1) (fun i hi => q i (by omega))
  have a2 : zS V.2.1 (w + 1) ((os_sa σ 1 (67 + 4 * w + 3) 1).2 1) := zS_see (s := σ.2 1) g2 (by omega)
  have a3 := zB_mv hB.1 g3 (s' := (os_sa σ 1 (67 + 4 * w + 3) 1).2 1) (fun i hi => q i (by omega))
  have a4 := (q 1 (by omega)).trans g4
  have a5 := (q 2 (by omega)).trans g5
  have a6 := (q 3 (by omega)).trans g6
  have a7 := (q 4 (by omega)).trans g7
  have eo : ((67 : Int32) + (4 : Int32) * nI w) + (3 : Int32) = nI (67 + 4 * w + 3) := by
    show (nI 67 + nI 4 * nI w) + nI 3 = _
    rw [n_mul, nI_add, nI_add]
  have eo0 : ((67 : Int32) + (4 : Int32) * nI w) + (0 : Int32) = nI (67 + 4 * w + 0) := by
    show (nI 67 + nI 4 * nI w) + nI 0 = _
    rw [n_mul, nI_add, nI_add]
  have x3 : fX9_order σ (nI w) (0 : Int32) = some (nI e.1) := (m_order (K := V.2.1) (w := 0) (c := 0) (by omega) (by omega)).trans (by rw [k1])
  have x10 : fX9_order σ (nI w) (1 : Int32) = some (nI e.2.1) := (m_order (K := V.2.1) (w := 0) (c := 1) (by omega) (by omega)).trans (by rw [k2])
  have ec : (nI (67 + 4 * w + 3)).toNatClampNeg = 67 + 4 * w + 3 := nI_clamp (by omega)
  have ec0 : (nI (67 + 4 * w + 0)).toNatClampNeg = 67 + 4 * w + 0 := nI_clamp (by omega)
  have gi9 : gx_in (nI (67 + 4 * w + 3)) 131 := nI_in (by omega) (by decide)
  have gi8 : gx_in (nI (67 + 4 * w + 0)) 131 := nI_in (by omega) (by decide)
  unfold fX9_visits
  rw [x3, gx_b_some, x10, gx_b_some]
  simp only [eo, eo0, ec, ec0, gx_chk_t gi9, gx_chk_t gi8]
  generalize hσ0 : os_sa σ 1 (67 + 4 * w + 3) 1 = σ0 at a1 a2 a3 a4 a5 a6 a7 hs0 ⊢
  have x81 : fX9_order σ0 (nI w) (2 : Int32) = some (nI e.2.2) := (m_order (K := V.2.1) (w := 0) (c := 2) (by omega) (by omega)).trans (by rw [(a2.2 w e he).2.2.1])
  rw [m_of0 hA a1 e2, gx_b_some, m_above hT a1 (by omega) e2, gx_b_some]
  cases hb : bf e.1 e.2.1 (ch V.1.2.2.2.2 e.2.1) with
  | none =>
    have ev : vis1 V w = (vLost V w, w) := by simp only [vis1, he, hb]
    obtain ⟨σ', d1, d2, d3⟩ := m_lost46 hw0 hlt a1 a2 a3 a4 a5 a6 a7
    have hn := bf_no hb
    rw [ev, ab_f hn, if_pos rfl, ite_self, d1]
    exact ⟨1, σ', rfl, fr1_tr hs0 d2, d3⟩
  | some n =>
    obtain ⟨p1, p2, p3, p4, p5, p6⟩ := bf_in hT e2 hb
    have hLn := (hL n p3).1
    rw [p6, b1_t, if_neg (by decide), ab_t p1, if_neg (by decide), m_next hT a1 p1 e2, hb, gx_b_some, show pI (some n) = nI n from rfl, m_of2 hA a1 p3, gx_b_some, x81, gx_b_some, n_le (by omega) (by omega), n_eq (by omega) (by omega)]
    obtain ⟨σ1, d1, d2, d3, d4, d5, d6⟩ := m_dropE hw0 hlt a1 a2 a3
    by_cases c1 : e.2.2 ≤ V.1.2.2.1 n
    · rw [if_pos c1]
      by_cases c2 : n = e.2.1
      · have ev : vis1 V w = (vExe V w n, w) := by simp only [vis1, he, hb, if_pos c1, if_pos c2]
        have q2 : ∀ i, i ≠ 2 → (os_sa σ1 1 2 (nI (V.2.2.2.2.1 + 1))).2 1 i = σ1.2 1 i := fun i hi => sa_i hi
        have f1 := zM_mv hA d3 (s' := (os_sa σ1 1 2 (nI (V.2.2.2.2.1 + 1))).2 1) (fun i hi => q2 i (by omega))
        have hz : zG (vExe V w n) w ((os_sa (os_sa σ1 1 2 (nI (V.2.2.2.2.1 + 1))) 1 (7 + 5 * n + 2) (nI (up2 (V.1.2.2.1 n)))).2 1) := by
          have q3 : ∀ i, i ≠ 7 + 5 * n + 2 → (os_sa (os_sa σ1 1 2 (nI (V.2.2.2.2.1 + 1))) 1 (7 + 5 * n + 2) (nI (up2 (V.1.2.2.1 n)))).2 1 i = (os_sa σ1 1 2 (nI (V.2.2.2.2.1 + 1))).2 1 i := fun i hi => sa_i hi
          refine ⟨zM_L hA p3 f1, zS_mv (by show (V.2.1.eraseIdx w).length ≤ 6; have := (wO_E hw0 hlt).1; omega) d4 (fun i hi => (q3 i (by omega)).trans (q2 i (by omega))), zB_mv hB.1 d5 (fun i hi => (q3 i (by omega)).trans (q2 i (by omega))), ?_, ?_, ?_, ?_⟩
          · rw [q3 1 (by omega), q2 1 (by omega), d6 1 (by omega)]; exact a4
          · rw [q3 2 (by omega), sa_same]; rfl
          · rw [q3 3 (by omega), q2 3 (by omega), d6 3 (by omega)]; exact a6
          · rw [q3 4 (by omega), q2 4 (by omega), d6 4 (by omega)]; exact a7
        rw [if_pos c2, ev, d1, gx_b_some, gx_chk_t gi2, gx_chk_t gi2, tc2, show os_a σ1 1 2 = nI V.2.2.2.2.1 from (d6 2 (by omega)).trans a5, nI_1, ← c2, m_of2 hA f1 p3, gx_b_some, gx_b_some, show nI (V.1.2.2.1 n) + (2 : Int32) = nI (V.1.2.2.1 n + 2) from nI_add _ 2]
        by_cases c3 : V.1.2.2.1 n + 2 ≤ 100
        · have eu : up2 (V.1.2.2.1 n) = V.1.2.2.1 n + 2 := by unfold up2; split <;> omega
          rw [eu] at hz
          rw [if_pos (show nI (V.1.2.2.1 n + 2) ≤ (100 : Int32) from (nI_leI (b := 100) (by omega) (by decide)).mpr c3), show fX9_sets (os_sa σ1 1 2 (nI (V.2.2.2.2.1 + 1))) (nI n) (2 : Int32) (nI (V.1.2.2.1 n + 2)) = _ from m_sets (w := 2) (by omega) (by omega), gx_b_some]
          exact ⟨1, _, rfl, fr1_tr hs0 (fr1_tr d2 (fr1_tr fr1_sa fr1_sa)), hz⟩
        · have eu : up2 (V.1.2.2.1 n) = 100 := by unfold up2; split <;> omega
          rw [eu] at hz
          rw [if_neg (show ¬ nI (V.1.2.2.1 n + 2) ≤ (100 : Int32) from fun h9 => c3 ((nI_leI (b := 100) (by omega) (by decide)).mp h9)), show fX9_sets (os_sa σ1 1 2 (nI (V.2.2.2.2.1 + 1))) (nI n) (2 : Int32) (100 : Int32) = _ from m_sets (w := 2) (by omega) (by omega), gx_b_some]
          exact ⟨1, _, rfl, fr1_tr hs0 (fr1_tr d2 (fr1_tr fr1_sa fr1_sa)), hz⟩
      · have ev : vis1 V w = (vPass V w n e, w + 1) := by simp only [vis1, he, hb, if_pos c1, if_neg c2]
        have q2 : ∀ i, i ≠ 67 + 4 * w + 0 → (os_sa σ0 1 (67 + 4 * w + 0) (nI n)).2 1 i = σ0.2 1 i := fun i hi => sa_i hi
        rw [if_neg c2, ev]
        refine ⟨0, _, rfl, fr1_tr hs0 fr1_sa, zM_mv hA a1 (fun i hi => q2 i (by omega)), ⟨?_, fun k x hx => ?_⟩, zB_mv hB.1 a3 (fun i hi => q2 i (by omega)), ?_, ?_, ?_, ?_⟩
        · show _ = nI (V.2.1.set w (n, e.2.1, e.2.2)).length
          rw [q2 5 (by omega), List.length_set]; exact a2.1
        · have hx2 : (V.2.1.set w (n, e.2.1, e.2.2))[k]? = some x := hx
          obtain ⟨r1, r2, r3, r4⟩ := a2.2 w e he
          by_cases c3 : k = w
          · subst c3
            rw [List.getElem?_set_self hlt] at hx2
            cases hx2
            rw [sa_same, q2 _ (by omega), q2 _ (by omega), q2 _ (by omega)]
            exact ⟨rfl, r2, r3, r4⟩
          · rw [List.getElem?_set_ne (fun q => c3 q.symm)] at hx2
            rw [q2 _ (by omega), q2 _ (by omega), q2 _ (by omega), q2 _ (by omega)]
            exact a2.2 k x hx2
        · rw [q2 1 (by omega)]; exact a4
        · rw [q2 2 (by omega)]; exact a5
        · rw [q2 3 (by omega)]; exact a6
        · rw [q2 4 (by omega)]; exact a7
    · have hFn := (hL n p3).2
      have hF2 := hF n p4
      have hl9 := wO_E hw0 hlt
      have q2 : ∀ i, i ≠ 3 → (os_sa σ1 1 3 (nI (V.2.2.2.2.2.1 + 1))).2 1 i = σ1.2 1 i := fun i hi => sa_i hi
      have f1 := zM_mv hA d3 (s' := (os_sa σ1 1 3 (nI (V.2.2.2.2.2.1 + 1))).2 1) (fun i hi => q2 i (by omega))
      have hz : zG (vRef V w n) w ((os_sa (os_sa σ1 1 3 (nI (V.2.2.2.2.2.1 + 1))) 1 (7 + 5 * n + 3) (nI (V.1.2.2.2.1 n + 1))).2 1) := by
        have q3 : ∀ i, i ≠ 7 + 5 * n + 3 → (os_sa (os_sa σ1 1 3 (nI (V.2.2.2.2.2.1 + 1))) 1 (7 + 5 * n + 3) (nI (V.1.2.2.2.1 n + 1))).2 1 i = (os_sa σ1 1 3 (nI (V.2.2.2.2.2.1 + 1))).2 1 i := fun i hi => sa_i hi
        refine ⟨zM_F hA p3 f1, zS_mv (by show (V.2.1.eraseIdx w).length ≤ 6; omega) d4 (fun i hi => (q3 i (by omega)).trans (q2 i (by omega))), zB_mv hB.1 d5 (fun i hi => (q3 i (by omega)).trans (q2 i (by omega))), ?_, ?_, ?_, ?_⟩
        · rw [q3 1 (by omega), q2 1 (by omega), d6 1 (by omega)]; exact a4
        · rw [q3 2 (by omega), q2 2 (by omega), d6 2 (by omega)]; exact a5
        · rw [q3 3 (by omega), sa_same]; rfl
        · rw [q3 4 (by omega), q2 4 (by omega), d6 4 (by omega)]; exact a7
      have hx : fX9_of (os_sa (os_sa σ1 1 3 (nI (V.2.2.2.2.2.1 + 1))) 1 (7 + 5 * n + 3) (nI (V.1.2.2.2.1 n + 1))) (nI n) (3 : Int32) = some (nI (V.1.2.2.2.1 n + 1)) := by
        rw [m_of3 hA hz.1 p3]
        show some (nI (uN V.1.2.2.2.1 n (V.1.2.2.2.1 n + 1) n)) = _
        rw [uN_s]
      rw [if_neg c1, d1, gx_b_some, gx_chk_t gi3, gx_chk_t gi3, tc3, show os_a σ1 1 3 = nI V.2.2.2.2.2.1 from (d6 3 (by omega)).trans a6, nI_1, m_of3 hA f1 p3, gx_b_some, nI_1, show fX9_sets (os_sa σ1 1 3 (nI (V.2.2.2.2.2.1 + 1))) (nI n) (3 : Int32) (nI (V.1.2.2.2.1 n + 1)) = _ from m_sets (w := 3) (by omega) (by omega), gx_b_some, hx, gx_b_some]
      by_cases c2 : V.1.2.2.2.1 n + 1 < 3
      · have ev : vis1 V w = (vRef V w n, w) := by simp only [vis1, he, hb, if_neg c1, if_pos c2]
        rw [if_neg (show ¬ nI (V.1.2.2.2.1 n + 1) = (3 : Int32) from fun h9 => by have := (nI_eq (b := 3) (by omega) (by decide)).mp h9; omega), ev]
        exact ⟨1, _, rfl, fr1_tr hs0 (fr1_tr d2 (fr1_tr fr1_sa fr1_sa)), hz⟩
      · have ev : vis1 V w = lvs n (vRef V w n) w := by simp only [vis1, he, hb, if_neg c1, if_neg c2]
        obtain ⟨σ', t1, t2, t3⟩ := m_leave' (V := vRef V w n) (w := w) (o := n) hT (by
          show (V.2.1.eraseIdx w).length ≤ 6
          omega) (by
          show w ≤ (V.2.1.eraseIdx w).length
          omega) (fun x hx => (hl9.2 x hx).1) hB.1 p4 p5 hz
        rw [if_pos (show nI (V.1.2.2.2.1 n + 1) = (3 : Int32) from (nI_eq (b := 3) (by omega) (by decide)).mpr (by omega)), ev, t1, gx_b_some]
        exact ⟨1, σ', rfl, fr1_tr hs0 (fr1_tr d2 (fr1_tr fr1_sa (fr1_tr fr1_sa t2))), t3⟩
/-! an hour -/
/-- at most n orders are visited -/
def hrs : Nat → AN × Nat → AN × Nat
  | 0, x => x
  | n + 1, x => if x.2 < x.1.2.1.length then hrs n (vis1 x.1 x.2) else x
def tick (V : AN) : AN := (V.1, V.2.1, V.2.2.1, V.2.2.2.1 + 1, V.2.2.2.2)
def one (V : AN) : AN := tick (hrs 6 (V, 0)).1
def hours : Nat → AN → AN
  | 0, V => V
  | n + 1, V => hours n (one V)
theorem hrs_wO : ∀ (n : Nat) (x : AN × Nat), wO x.1 x.2 → x.1.2.1.length - x.2 ≤ n → wO (hrs n x).1 (hrs n x).2 ∧ (hrs n x).2 = (hrs n x).1.2.1.length ∧ tot (hrs n x).1 = tot x.1 ∧ x.1.2.2.2.2.1 ≤ (hrs n x).1.2.2.2.2.1 := by
  intro n
  induction n with
  | zero =>
    intro x hx hm
    have := hx.2.2.2.2.1
    exact ⟨hx, by show x.2 = x.1.2.1.length; omega, rfl, Nat.le_refl _⟩
  | succ n ih =>
    intro x hx hm
    by_cases e : x.2 < x.1.2.1.length
    · have ev : hrs (n + 1) x = hrs n (vis1 x.1 x.2) := by simp only [hrs, if_pos e]
      obtain ⟨v1, v2, v3, v4⟩ := vis_wO hx e
      obtain ⟨i1, i2, i3, i4⟩ := ih (vis1 x.1 x.2) v1 (by omega)
      rw [ev]
      exact ⟨i1, i2, i3.trans v3, Nat.le_trans v4 i4⟩
    · have ev : hrs (n + 1) x = x := by simp only [hrs, if_neg e]
      have := hx.2.2.2.2.1
      rw [ev]
      exact ⟨hx, by omega, rfl, Nat.le_refl _⟩
theorem c_hrs (k21 : NS → Int32 → Int32 → Int32 → Option (Int32 × NS)) (v1 v2 v3 : Int32) : ∀ (d j n : Nat) (x : AN × Nat) (τ : NS), j + d = 6 → d < n → wO x.1 x.2 → zN x.1 x.2 τ → ∃ τ', fX2_letHoursPass_37 k21 n τ v1 v2 v3 (nI j) = fX2_letHoursPass_71 k21 τ' v1 v2 v3 ∧ zN (hrs d x).1 (hrs d x).2 τ' := by
  intro d
  induction d with
  | zero =>
    intro j n x τ hj hn hx hz
    obtain ⟨m, rfl⟩ : ∃ m, n = m + 1 := ⟨n - 1, by omega⟩
    refine ⟨τ, ?_, hz⟩
    rw [fX2_letHoursPass_37_s, if_pos (show (6 : Int32) ≤ nI j from (nI_leI (a := 6) (by decide) (by omega)).mpr (by omega))]
  | succ d ih =>
    intro j n x τ hj hn hx hz
    obtain ⟨m, rfl⟩ : ∃ m, n = m + 1 := ⟨n - 1, by omega⟩
    have hK := hx.2.2.2.1
    have hwK := hx.2.2.2.2.1
    rw [fX2_letHoursPass_37_s, if_neg (show ¬ (6 : Int32) ≤ nI j from fun q => by have := (nI_leI (a := 6) (by decide) (by omega)).mp q; omega), show os_f τ.2.2.1 3 = nI x.1.2.1.length from hz.2.1.1, show os_f τ.2.2.1 4 = nI x.2 from hz.2.1.2.1, n_le (by omega) (by omega)]
    by_cases e : x.2 < x.1.2.1.length
    · have ev : hrs (d + 1) x = hrs d (vis1 x.1 x.2) := by simp only [hrs, if_pos e]
      obtain ⟨τ1, t1, t2⟩ := c_vis hx e hz
      obtain ⟨τ', i1, i2⟩ := ih (j + 1) m (vis1 x.1 x.2) τ1 (by omega) (by omega) (vis_wO hx e).1 t2
      rw [if_neg (by omega), t1, gx_b_some, nI_1, i1, ev]
      exact ⟨τ', rfl, i2⟩
    · have ev : hrs (d + 1) x = x := by simp only [hrs, if_neg e]
      rw [if_pos (by omega), ev]
      exact ⟨τ, rfl, hz⟩
theorem zQ_0 {K : List ON} {τ : OS} (h : zQ K w τ) : zQ K 0 (os_sf τ 4 0) := ⟨by rw [sf_k (by decide)]; exact h.1, by rw [sf_same]; rfl, h.2.2⟩
theorem wO_0 (h : wO V w) : wO V 0 := ⟨h.1, h.2.1, h.2.2.1, h.2.2.2.1, Nat.zero_le _, h.2.2.2.2.2⟩
theorem one_wO (h : wO V w) : wO (one V) 0 ∧ tot (one V) = tot V ∧ V.2.2.2.2.1 ≤ (one V).2.2.2.2.1 := by
  obtain ⟨h1, h2, h3, h4⟩ := hrs_wO 6 (V, 0) (wO_0 h) (by have := h.2.2.2.1; show V.2.1.length - 0 ≤ 6; omega)
  exact ⟨wO_0 h1, h3, h4⟩
theorem hours_wO : ∀ (n : Nat) (V : AN) (w : Nat), wO V w → wO (hours n V) 0 ∧ tot (hours n V) = tot V ∧ V.2.2.2.2.1 ≤ (hours n V).2.2.2.2.1 := by
  intro n
  induction n with
  | zero => intro V w h; exact ⟨wO_0 h, rfl, Nat.le_refl _⟩
  | succ n ih =>
    intro V w h
    obtain ⟨a1, a2, a3⟩ := one_wO h
    obtain ⟨b1, b2, b3⟩ := ih (one V) 0 a1
    exact ⟨b1, b2.trans a2, Nat.le_trans a3 b3⟩
theorem c_hours (v1 : Nat) (v2 : Int32) (hv1 : v1 < 2 ^ 31) : ∀ (d i n : Nat) (V : AN) (w : Nat) (τ : NS), i + d = v1 → d < n → wO V w → zN V w τ → ∃ τ' w', fX2_letHoursPass_21 n τ (nI v1) v2 (nI i) = some (nI (hours d V).2.2.2.2.1 - v2, τ') ∧ w' ≤ (hours d V).2.1.length ∧ zN (hours d V) w' τ' := by
  intro d
  induction d with
  | zero =>
    intro i n V w τ hi hn hw hz
    obtain ⟨m, rfl⟩ : ∃ m, n = m + 1 := ⟨n - 1, by omega⟩
    refine ⟨τ, w, ?_, hw.2.2.2.2.1, hz⟩
    rw [fX2_letHoursPass_21, n_le (by omega) (by omega), if_pos (by omega), show os_f τ.1 4 = nI V.2.2.2.2.1 from hz.2.2.2.2.1]
    rfl
  | succ d ih =>
    intro i n V w τ hi hn hw hz
    obtain ⟨m, rfl⟩ : ∃ m, n = m + 1 := ⟨n - 1, by omega⟩
    have hz0 : zN V 0 (τ.1, τ.2.1, os_sf τ.2.2.1 4 0, τ.2.2.2) := ⟨hz.1, zQ_0 hz.2.1, hz.2.2⟩
    obtain ⟨τ1, t1, t2⟩ := c_hrs (fX2_letHoursPass_21 m) (nI v1) v2 (nI i) 6 0 2000 (V, 0) _ (by omega) (by omega) (wO_0 hw) hz0
    obtain ⟨h1, h2, h3, h4⟩ := hrs_wO 6 (V, 0) (wO_0 hw) (by have := hw.2.2.2.1; show V.2.1.length - 0 ≤ 6; omega)
    have hz1 : zN (one V) (hrs 6 (V, 0)).2 (os_sf τ1.1 3 ((os_f τ1.1 3) + 1), τ1.2) := by
      obtain ⟨g1, g2, g3, g4, g5, g6, g7⟩ := t2
      refine ⟨g1, g2, g3, ?_, ?_, ?_, ?_⟩
      · show (os_sf τ1.1 3 (os_f τ1.1 3 + 1)).1 3 = (hrs 6 (V, 0)).1.2.2.2.1 + 1
        rw [sf_same, show os_f τ1.1 3 = (hrs 6 (V, 0)).1.2.2.2.1 from g4]
      · show (os_sf τ1.1 3 _).1 4 = _; rw [sf_k (by decide)]; exact g5
      · show (os_sf τ1.1 3 _).1 5 = _; rw [sf_k (by decide)]; exact g6
      · show (os_sf τ1.1 3 _).1 6 = _; rw [sf_k (by decide)]; exact g7
    obtain ⟨τ', w', i1, i2, i3⟩ := ih (i + 1) m (one V) (hrs 6 (V, 0)).2 _ (by omega) (by omega) h1 hz1
    refine ⟨τ', w', ?_, i2, i3⟩
    rw [fX2_letHoursPass_21, n_le (by omega) (by omega), if_neg (by omega)]
    refine Eq.trans t1 ?_
    unfold fX2_letHoursPass_71
    rw [nI_1]
    exact i1
/-! the reference's hour: the flags of what was visited -/
theorem m_oh34 : ∀ (n : Nat) (x : AN × Nat) (fuel : Nat) (σ : OS), wO x.1 x.2 → x.1.2.1.length - x.2 ≤ n → 8 * (n + 1) ≤ fuel → zG x.1 x.2 (σ.2 1) → ∃ σ', fX9_oneHour_34 fuel σ (nI 0) = fX9_oneHour_72 2000 σ' (nI 0) ∧ fr1 σ σ' ∧ zG (hrs n x).1 (hrs n x).2 (σ'.2 1) := by
  have skip : ∀ (d j : Nat) (x : AN × Nat) (fuel : Nat) (σ : OS), wO x.1 x.2 → j + d = x.2 → d ≤ fuel → zG x.1 x.2 (σ.2 1) → fX9_oneHour_34 fuel σ (nI j) = fX9_oneHour_34 (fuel - d) σ (nI x.2) := by
    intro d
    induction d with
    | zero => intro j x fuel σ hx hj hf hz; rw [show j = x.2 by omega, Nat.sub_zero]
    | succ d ih =>
      intro j x fuel σ hx hj hf hz
      obtain ⟨m, rfl⟩ : ∃ m, fuel = m + 1 := ⟨fuel - 1, by omega⟩
      have hK := hx.2.2.2.1
      have hwK := hx.2.2.2.2.1
      obtain ⟨e, he⟩ := lt_get (K := x.1.2.1) (k := j) (by omega)
      have k4 := (hz.2.1.2 j e he).2.2.2
      rw [if_pos (by omega)] at k4
      rw [fX9_oneHour_34_s, gx_chk_t gi5, tc5, show os_a σ 1 5 = nI x.1.2.1.length from hz.2.1.1, n_le (by omega) (by omega), if_neg (by omega), show fX9_order σ (nI j) (3 : Int32) = some 1 from (m_order (K := x.1.2.1) (w := 0) (c := 3) (by omega) (by omega)).trans (by rw [k4]), gx_b_some, if_neg (by decide), nI_1, ih (j + 1) x m σ hx (by omega) (by omega) hz]
      congr 1
      omega
  intro n
  induction n with
  | zero =>
    intro x fuel σ hx hm hf hz
    have hK := hx.2.2.2.1
    have hwK := hx.2.2.2.2.1
    refine ⟨σ, ?_, fr1_rf, hz⟩
    rw [skip x.2 0 x fuel σ hx (by omega) (by omega) hz]
    obtain ⟨m, e⟩ : ∃ m, fuel - x.2 = m + 1 := ⟨fuel - x.2 - 1, by omega⟩
    rw [e, fX9_oneHour_34_s, gx_chk_t gi5, tc5, show os_a σ 1 5 = nI x.1.2.1.length from hz.2.1.1, n_le (by omega) (by omega), if_pos (by omega)]
    rfl
  | succ n ih =>
    intro x fuel σ hx hm hf hz
    have hK := hx.2.2.2.1
    have hwK := hx.2.2.2.2.1
    rw [skip x.2 0 x fuel σ hx (by omega) (by omega) hz]
    obtain ⟨m, e⟩ : ∃ m, fuel - x.2 = m + 1 := ⟨fuel - x.2 - 1, by omega⟩
    rw [e, fX9_oneHour_34_s, gx_chk_t gi5, tc5, show os_a σ 1 5 = nI x.1.2.1.length from hz.2.1.1, n_le (by omega) (by omega)]
    by_cases c : x.2 < x.1.2.1.length
    · have ev : hrs (n + 1) x = hrs n (vis1 x.1 x.2) := by simp only [hrs, if_pos c]
      obtain ⟨v1, v2, v3, v4⟩ := vis_wO hx c
      obtain ⟨y, hy⟩ := lt_get c
      have k4 := (hz.2.1.2 x.2 y hy).2.2.2
      rw [if_neg (by omega)] at k4
      obtain ⟨r, σ1, t1, t2, t3⟩ := m_vis hx c hz
      obtain ⟨σ', i1, i2, i3⟩ := ih (vis1 x.1 x.2) m σ1 v1 (by omega) (by omega) t3
      rw [if_neg (by omega), show fX9_order σ (nI x.2) (3 : Int32) = some 0 from (m_order (K := x.1.2.1) (w := 0) (c := 3) (by omega) (by omega)).trans (by rw [k4]), gx_b_some, if_pos rfl, t1, gx_b_some, ev]
      exact ⟨σ', i1, fr1_tr t2 i2, i3⟩
    · have ev : hrs (n + 1) x = x := by simp only [hrs, if_neg c]
      rw [if_pos (by omega), ev]
      exact ⟨σ, rfl, fr1_rf, hz⟩
/-- the flags at the places from j on are put back -/
def zT (K : List ON) (w j : Nat) (s : Nat → Int32) : Prop := s 5 = nI K.length ∧ ∀ k e, K[k]? = some e → s (67 + 4 * k + 0) = nI e.1 ∧ s (67 + 4 * k + 1) = nI e.2.1 ∧ s (67 + 4 * k + 2) = nI e.2.2 ∧ s (67 + 4 * k + 3) = (if j ≤ k ∧ k < w then 1 else 0)
theorem zT_set {K : List ON} {j : Nat} {σ : OS} (h : zT K w j (σ.2 1)) : zT K w (j + 1) ((os_sa σ 1 (67 + 4 * j + 3) 0).2 1) := by
  refine ⟨by rw [sa_i (by omega)]; exact h.1, fun k e he => ?_⟩
  obtain ⟨p1, p2, p3, p4⟩ := h.2 k e he
  rw [sa_i (by omega), sa_i (by omega), sa_i (by omega)]
  refine ⟨p1, p2, p3, ?_⟩
  by_cases c : k = j
  · subst c
    rw [sa_same, if_neg (by omega)]
  · rw [sa_i (by omega), p4]
    by_cases c2 : j ≤ k ∧ k < w
    · rw [if_pos c2, if_pos (by omega)]
    · rw [if_neg c2, if_neg (by omega)]
theorem zT_0 {K : List ON} {s : Nat → Int32} (h : zS K w s) : zT K w 0 s := by
  refine ⟨h.1, fun k e he => ?_⟩
  obtain ⟨p1, p2, p3, p4⟩ := h.2 k e he
  refine ⟨p1, p2, p3, ?_⟩
  rw [p4]
  by_cases c : k < w
  · rw [if_pos c, if_pos (by omega)]
  · rw [if_neg c, if_neg (by omega)]
theorem zT_n {K : List ON} {j : Nat} {s : Nat → Int32} (hj : K.length ≤ j) (h : zT K w j s) : zS K 0 s := by
  refine ⟨h.1, fun k e he => ?_⟩
  obtain ⟨p1, p2, p3, p4⟩ := h.2 k e he
  have := get_lt he
  refine ⟨p1, p2, p3, ?_⟩
  rw [p4, if_neg (by omega), if_neg (by omega)]
theorem m_oh2 (hK : V.2.1.length ≤ 6) : ∀ (d j n : Nat) (σ : OS), j + d = V.2.1.length → d < n → zT V.2.1 w j (σ.2 1) → ∃ σ', fX9_oneHour_2 n σ (nI j) = fX9_oneHour_34 2000 σ' (nI 0) ∧ fr1 σ σ' ∧ zS V.2.1 0 (σ'.2 1) ∧ ∀ i, i < 67 ∨ 91 ≤ i → σ'.2 1 i = σ.2 1 i := by
  intro d
  induction d with
  | zero =>
    intro j n σ hj hn h
    obtain ⟨m, rfl⟩ : ∃ m, n = m + 1 := ⟨n - 1, by omega⟩
    refine ⟨σ, ?_, fr1_rf, zT_n (by omega) h, fun _ _ => rfl⟩
    rw [fX9_oneHour_2_s, gx_chk_t gi5, tc5, show os_a σ 1 5 = nI V.2.1.length from h.1, n_le (by omega) (by omega), if_pos (by omega)]
    rfl
  | succ d ih =>
    intro j n σ hj hn h
    obtain ⟨m, rfl⟩ : ∃ m, n = m + 1 := ⟨n - 1, by omega⟩
    have eo : ((67 : Int32) + (4 : Int32) * nI j) + (3 : Int32) = nI (67 + 4 * j + 3) := by
      show (nI 67 + nI 4 * nI j) + nI 3 = _
      rw [n_mul, nI_add, nI_add]
    obtain ⟨σ', i1, i2, i3, i4⟩ := ih (j + 1) m (os_sa σ 1 (67 + 4 * j + 3) 0) (by omega) (by omega) (zT_set h)
    refine ⟨σ', ?_, fr1_tr fr1_sa i2, i3, fun i hi => ?_⟩
    · rw [fX9_oneHour_2_s, gx_chk_t gi5, tc5, show os_a σ 1 5 = nI V.2.1.length from h.1, n_le (by omega) (by omega), if_neg (by omega), eo, gx_chk_t (nI_in (by omega) (by decide)), nI_clamp (by omega), nI_1]
      exact i1
    · rw [i4 i hi, sa_i (by omega)]
theorem m_oh72 (hK : V.2.1.length ≤ 6) : ∀ (d j n : Nat) (σ : OS), j + d = V.2.1.length → d < n → zT V.2.1 w j (σ.2 1) → ∃ σ', fX9_oneHour_72 n σ (nI j) = some σ' ∧ fr1 σ σ' ∧ zS V.2.1 0 (σ'.2 1) ∧ σ'.2 1 1 = σ.2 1 1 + 1 ∧ ∀ i, i < 67 ∨ 91 ≤ i → i ≠ 1 → σ'.2 1 i = σ.2 1 i := by
  intro d
  induction d with
  | zero =>
    intro j n σ hj hn h
    obtain ⟨m, rfl⟩ : ∃ m, n = m + 1 := ⟨n - 1, by omega⟩
    refine ⟨os_sa σ 1 1 (σ.2 1 1 + 1), ?_, fr1_sa, zS_mv hK (zT_n (by omega) h) (fun i hi => sa_i (by omega)), sa_same, fun i hi h1 => sa_i h1⟩
    rw [fX9_oneHour_72_s, gx_chk_t gi5, tc5, show os_a σ 1 5 = nI V.2.1.length from h.1, n_le (by omega) (by omega), if_pos (by omega), gx_chk_t gi1, gx_chk_t gi1, tc1]
  | succ d ih =>
    intro j n σ hj hn h
    obtain ⟨m, rfl⟩ : ∃ m, n = m + 1 := ⟨n - 1, by omega⟩
    have eo : ((67 : Int32) + (4 : Int32) * nI j) + (3 : Int32) = nI (67 + 4 * j + 3) := by
      show (nI 67 + nI 4 * nI j) + nI 3 = _
      rw [n_mul, nI_add, nI_add]
    obtain ⟨σ', i1, i2, i3, i4, i5⟩ := ih (j + 1) m (os_sa σ 1 (67 + 4 * j + 3) 0) (by omega) (by omega) (zT_set h)
    refine ⟨σ', ?_, fr1_tr fr1_sa i2, i3, ?_, fun i hi h1 => ?_⟩
    · rw [fX9_oneHour_72_s, gx_chk_t gi5, tc5, show os_a σ 1 5 = nI V.2.1.length from h.1, n_le (by omega) (by omega), if_neg (by omega), eo, gx_chk_t (nI_in (by omega) (by decide)), nI_clamp (by omega), nI_1]
      exact i1
    · rw [i4, sa_i (by omega)]
    · rw [i5 i hi h1, sa_i (by omega)]
theorem m_one {σ : OS} (hw : wO V 0) (h : zG V 0 (σ.2 1)) : ∃ σ', fX9_oneHour σ = some σ' ∧ fr1 σ σ' ∧ zG (one V) 0 (σ'.2 1) := by
  have hA := hw.1.2.1
  have hK := hw.2.2.2.1
  have hB := hw.2.2.2.2.2.2.1
  obtain ⟨g1, g2, g3, g4, g5, g6, g7⟩ := h
  obtain ⟨σ1, a1, a2, a3, a4⟩ := m_oh2 (V := V) (w := 0) hK V.2.1.length 0 2000 σ (by omega) (by omega) (zT_0 g2)
  have hz1 : zG V 0 (σ1.2 1) := ⟨zM_mv hA g1 (fun i hi => a4 i (by omega)), a3, zB_mv hB g3 (fun i hi => a4 i (by omega)), by rw [a4 1 (by omega)]; exact g4, by rw [a4 2 (by omega)]; exact g5, by rw [a4 3 (by omega)]; exact g6, by rw [a4 4 (by omega)]; exact g7⟩
  obtain ⟨σ2, b1', b2, b3⟩ := m_oh34 6 (V, 0) 2000 σ1 hw (by show V.2.1.length - 0 ≤ 6; omega) (by omega) hz1
  obtain ⟨h1, h2, h3, h4⟩ := hrs_wO 6 (V, 0) hw (by show V.2.1.length - 0 ≤ 6; omega)
  obtain ⟨j1, j2, j3, j4, j5, j6, j7⟩ := b3
  obtain ⟨σ', c1, c2, c3, c4, c5⟩ := m_oh72 (V := (hrs 6 (V, 0)).1) (w := (hrs 6 (V, 0)).2) h1.2.2.2.1 (hrs 6 (V, 0)).1.2.1.length 0 2000 σ2 (by omega) (by have := h1.2.2.2.1; omega) (zT_0 j2)
  refine ⟨σ', ?_, fr1_tr a2 (fr1_tr b2 c2), zM_mv h1.1.2.1 j1 (fun i hi => c5 i (by omega) (by omega)), c3, zB_mv h1.2.2.2.2.2.2.1 j3 (fun i hi => c5 i (by omega) (by omega)), ?_, ?_, ?_, ?_⟩
  · unfold fX9_oneHour
    rw [show (0 : Int32) = nI 0 from rfl, a1, b1', c1]
  · rw [c4, j4]; rfl
  · rw [c5 2 (by omega) (by omega)]; exact j5
  · rw [c5 3 (by omega) (by omega)]; exact j6
  · rw [c5 4 (by omega) (by omega)]; exact j7
/-- what an action of the reference changes: the navy and its answer -/
def frm (σ σ' : OS) : Prop := (∀ k, k ≠ 14 → σ'.1 k = σ.1 k) ∧ ∀ q, q ≠ 1 → σ'.2 q = σ.2 q
theorem m_pass21 (v1 : Nat) (v2 : Int32) (hv1 : v1 < 2 ^ 31) : ∀ (d i n : Nat) (V : AN) (σ : OS), i + d = v1 → d < n → wO V 0 → zG V 0 (σ.2 1) → ∃ σ', fX9_passes_21 n σ (nI v1) v2 (nI i) = some (0, σ') ∧ frm σ σ' ∧ σ'.1 14 = nI (hours d V).2.2.2.2.1 - v2 ∧ zG (hours d V) 0 (σ'.2 1) := by
  intro d
  induction d with
  | zero =>
    intro i n V σ hi hn hw hz
    obtain ⟨m, rfl⟩ : ∃ m, n = m + 1 := ⟨n - 1, by omega⟩
    refine ⟨os_sf σ 14 (nI V.2.2.2.2.1 - v2), ?_, ⟨fun k hk => sf_k hk, fun _ _ => rfl⟩, sf_same, hz⟩
    rw [fX9_passes_21_s, n_le (by omega) (by omega), if_pos (by omega), gx_chk_t gi2, tc2, show os_a σ 1 2 = nI V.2.2.2.2.1 from hz.2.2.2.2.1]
    rfl
  | succ d ih =>
    intro i n V σ hi hn hw hz
    obtain ⟨m, rfl⟩ : ∃ m, n = m + 1 := ⟨n - 1, by omega⟩
    obtain ⟨σ1, t1, t2, t3⟩ := m_one hw hz
    obtain ⟨σ', i1, i2, i3, i4⟩ := ih (i + 1) m (one V) σ1 (by omega) (by omega) (one_wO hw).1 t3
    refine ⟨σ', ?_, ⟨fun k hk => by rw [i2.1 k hk, t2.1], fun q hq => by rw [i2.2 q hq, t2.2 q hq]⟩, i3, i4⟩
    rw [fX9_passes_21_s, n_le (by omega) (by omega), if_neg (by omega), t1, gx_b_some, nI_1]
    exact i1
end Hour2
