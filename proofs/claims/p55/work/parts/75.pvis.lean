/-! an officer leaves; an order is visited: both sides -/
abbrev AO : Type := Nat × (Nat → Nat) × (Nat → Nat) × (Nat → Nat) × (Nat → Option Nat)
abbrev AN : Type := AO × List ON × List (Nat × Nat) × Int32 × Nat × Nat × Nat
def uN {α : Type} (f : Nat → α) (k : Nat) (x : α) : Nat → α := fun j => if j = k then x else f j
theorem uN_s {α : Type} (f : Nat → α) (k : Nat) (x : α) : uN f k x k = x := by simp [uN]
theorem uN_o {α : Type} {f : Nat → α} {k j : Nat} {x : α} (h : j ≠ k) : uN f k x j = f j := by simp [uN, h]
/-- the book: on the side of the class the same pairs in some order, under other numbers -/
def zY (B : List (Nat × Nat)) (σ : OS) : Prop := ∃ C : List (Nat × Nat), C.Perm B ∧ σ.1 2 = nI C.length ∧ ∀ k e, C[k]? = some e → σ.2 0 k = nI (e.1 - 2619) ∧ σ.2 1 k = nI e.2
def zB (B : List (Nat × Nat)) (s : Nat → Int32) : Prop := s 6 = nI B.length ∧ ∀ k e, B[k]? = some e → s (91 + 2 * k) = nI e.1 ∧ s (91 + 2 * k + 1) = nI e.2
def wB (B : List (Nat × Nat)) : Prop := B.length ≤ 20 ∧ (B.map Prod.fst).Nodup ∧ ∀ e ∈ B, 2619 ≤ e.1 ∧ e.1 < 3295 ∧ e.2 ≤ 99
def zN (V : AN) (w : Nat) (n : NS) : Prop := zO V.1.1 V.1.2.1 V.1.2.2.1 V.1.2.2.2.1 V.1.2.2.2.2 n.2.1 ∧ zQ V.2.1 w n.2.2.1 ∧ zY V.2.2.1 n.2.2.2 ∧ n.1.1 3 = V.2.2.2.1 ∧ n.1.1 4 = nI V.2.2.2.2.1 ∧ n.1.1 5 = nI V.2.2.2.2.2.1 ∧ n.1.1 6 = nI V.2.2.2.2.2.2
def zG (V : AN) (w : Nat) (s : Nat → Int32) : Prop := zM V.1.1 V.1.2.1 V.1.2.2.1 V.1.2.2.2.1 V.1.2.2.2.2 s ∧ zS V.2.1 w s ∧ zB V.2.2.1 s ∧ s 1 = V.2.2.2.1 ∧ s 2 = nI V.2.2.2.2.1 ∧ s 3 = nI V.2.2.2.2.2.1 ∧ s 4 = nI V.2.2.2.2.2.2
def wO (V : AN) (w : Nat) : Prop := wT V.1.1 V.1.2.1 V.1.2.2.2.2 ∧ wL V.1.1 V.1.2.2.1 V.1.2.2.2.1 ∧ (∀ o, hv V.1.2.2.2.2 o = true → V.1.2.2.2.1 o ≤ 2) ∧ V.2.1.length ≤ 6 ∧ w ≤ V.2.1.length ∧ (∀ e ∈ V.2.1, hv V.1.2.2.2.2 e.1 = true ∧ e.2.1 < V.1.1 ∧ e.2.2 ≤ 100) ∧ wB V.2.2.1
/-- orders that were issued so far -/
def tot (V : AN) : Nat := V.2.2.2.2.1 + V.2.2.2.2.2.1 + V.2.2.2.2.2.2 + V.2.1.length
def delP (P : Nat → Option Nat) (o : Nat) : Nat → Option Nat := fun q => if q = o then none else if P q = some o then P o else P q
/-- the first i officers seen -/
def dP (P : Nat → Option Nat) (o i : Nat) : Nat → Option Nat := fun j => if j < i ∧ P j = some o then P o else P j
def lvs (o : Nat) (V : AN) (w : Nat) : AN × Nat := (((V.1.1, V.1.2.1, V.1.2.2.1, V.1.2.2.2.1, delP V.1.2.2.2.2 o), (dis o V.2.1.length (V.2.1, w)).1.1, V.2.2.1, V.2.2.2.1, V.2.2.2.2.1, V.2.2.2.2.2.1, V.2.2.2.2.2.2 + (dis o V.2.1.length (V.2.1, w)).2), (dis o V.2.1.length (V.2.1, w)).1.2)
section Leave
variable {A : Nat} {R L F : Nat → Nat} {P : Nat → Option Nat} {σ : OS}
theorem po_some (hw : wT A R P) {o : Nat} (ho : hv P o = true) (h0 : o ≠ 0) : ∃ p, P o = some p ∧ p ≠ o := by
  rcases hv_cases ho with e | ⟨p, e⟩
  · exact absurd e h0
  · refine ⟨p, e, fun q => ?_⟩
    have := (hw.2.2.2.2.1 o p e).2.2
    rw [q] at this
    exact Nat.lt_irrefl _ this
theorem hv_del (hw : wT A R P) {o : Nat} (ho : hv P o = true) (h0 : o ≠ 0) (q : Nat) : hv (delP P o) q = if q = o then false else hv P q := by
  obtain ⟨p, e, hp⟩ := po_some hw ho h0
  unfold hv delP
  by_cases e1 : q = o
  · subst e1
    rw [if_pos rfl, if_pos rfl]
    simp [h0]
  · rw [if_neg e1, if_neg e1]
    by_cases e2 : P q = some o
    · rw [if_pos e2, e, e2]
      simp
    · rw [if_neg e2]
theorem hv_dP (hw : wT A R P) {o : Nat} (ho : hv P o = true) (h0 : o ≠ 0) (i q : Nat) : hv (dP P o i) q = hv P q := by
  obtain ⟨p, e, hp⟩ := po_some hw ho h0
  unfold hv dP
  by_cases e2 : q < i ∧ P q = some o
  · rw [if_pos e2, e, e2.2]
    simp
  · rw [if_neg e2]
theorem dP_o (hw : wT A R P) {o : Nat} (ho : hv P o = true) (h0 : o ≠ 0) (i : Nat) : dP P o i o = P o := by
  obtain ⟨p, e, hp⟩ := po_some hw ho h0
  unfold dP
  rw [if_neg]
  rintro ⟨-, q⟩
  rw [e] at q
  exact hp (Option.some.inj q)
theorem dP_s {o i : Nat} : dP P o (i + 1) = uN (dP P o i) i (if P i = some o then P o else P i) := by
  funext j
  unfold uN dP
  by_cases e : j = i
  · subst e
    rw [if_pos rfl]
    by_cases e2 : P j = some o
    · rw [if_pos ⟨by omega, e2⟩, if_pos e2]
    · rw [if_neg (fun q => e2 q.2), if_neg e2]
  · rw [if_neg e]
    by_cases e2 : j < i ∧ P j = some o
    · rw [if_pos e2, if_pos ⟨by omega, e2.2⟩]
    · rw [if_neg e2, if_neg (fun q => e2 ⟨by omega, q.2⟩)]
theorem dP_i {o i : Nat} : dP P o i i = P i := by
  unfold dP
  rw [if_neg (fun q => Nat.lt_irrefl _ q.1)]
theorem dP_same {o i : Nat} (h : P i ≠ some o) : dP P o (i + 1) = dP P o i := by
  funext j
  unfold dP
  by_cases e2 : j < i ∧ P j = some o
  · rw [if_pos e2, if_pos ⟨by omega, e2.2⟩]
  · rw [if_neg e2, if_neg]
    rintro ⟨q1, q2⟩
    by_cases e : j = i
    · subst e; exact h q2
    · exact e2 ⟨by omega, q2⟩
theorem delP_eq (hw : wT A R P) {o : Nat} : ∀ q, delP P o q = uN (dP P o A) o none q := by
  intro q
  unfold delP uN dP
  by_cases e : q = o
  · rw [if_pos e, if_pos e]
  · rw [if_neg e, if_neg e]
    by_cases e2 : P q = some o
    · have : q < A := by
        rcases Nat.lt_or_ge q A with h | h
        · exact h
        · rw [hw.2.2.2.1 q h] at e2; cases e2
      rw [if_pos e2, if_pos ⟨this, e2⟩]
    · rw [if_neg e2, if_neg (fun h => e2 h.2)]
theorem delP_wT (hw : wT A R P) {o : Nat} (ho : hv P o = true) (h0 : o ≠ 0) : wT A R (delP P o) := by
  obtain ⟨p, e, hp⟩ := po_some hw ho h0
  obtain ⟨h1, h2, h3, h4, h5, h6⟩ := hw
  have hh := hv_del ⟨h1, h2, h3, h4, h5, h6⟩ ho h0
  refine ⟨h1, h2, ?_, fun q hq => ?_, fun q r hr => ?_, h6⟩
  · unfold delP
    rw [if_neg (fun q => h0 q.symm), h3, if_neg (fun q => by cases q)]
  · unfold delP
    rw [h4 q hq]
    simp
  · rw [hh]
    unfold delP at hr
    by_cases e1 : q = o
    · rw [if_pos e1] at hr; cases hr
    · rw [if_neg e1] at hr
      by_cases e2 : P q = some o
      · rw [if_pos e2, e] at hr
        cases hr
        obtain ⟨g1, g2, g3⟩ := h5 o p e
        obtain ⟨k1, k2, k3⟩ := h5 q o e2
        rw [if_neg hp]
        exact ⟨g1, g2, by omega⟩
      · rw [if_neg e2] at hr
        obtain ⟨g1, g2, g3⟩ := h5 q r hr
        have hro : r ≠ o := fun h => e2 (by rw [hr, h])
        rw [if_neg hro]
        exact ⟨g1, g2, g3⟩
theorem zO_P {P' : Nat → Option Nat} (h : zO A R L F P σ) (h1 : ∀ q, P' q = P q) : zO A R L F P' σ := by
  have : P' = P := funext h1
  rw [this]; exact h
theorem c_orem2 (hw : wT A R P) {o : Nat} (ho : hv P o = true) (h0 : o ≠ 0) : ∀ (k i n : Nat) (σ : OS), i + k = A → k < n → zO A R L F (dP P o i) σ → ∃ σ', fX3_remove_2 n σ (nI o) (nI i) = some σ' ∧ zO A R L F (delP P o) σ' := by
  have hA := hw.2.1
  have hoA := hv_lt hw ho
  have go : gx_in (nI o) 12 := nI_in (by omega) (by decide)
  intro k
  induction k with
  | zero =>
    intro i n σ hi hn h
    obtain ⟨m, rfl⟩ : ∃ m, n = m + 1 := ⟨n - 1, by omega⟩
    have e : i = A := by omega
    subst e
    rw [fX3_remove_2_s, c_A h, n_le (by omega) (by omega), if_pos (by omega), gx_chk_t go, gx_chk_t go, nI_clamp (by omega)]
    refine ⟨_, rfl, ?_, fun q hq => ?_, fun q hq => ?_⟩
    · exact h.1
    · rw [hv_del hw ho h0]
      by_cases e : q = o
      · rw [e, sa_same, if_pos rfl]; rfl
      · rw [sa_i e, sa_j (by decide), if_neg e, h.2.1 q hq, hv_dP hw ho h0]
    · obtain ⟨p1, p2, p3, p4⟩ := h.2.2 q hq
      rw [sa_j (by decide), sa_j (by decide), sa_j (by decide), sa_j (by decide), sa_j (by decide), sa_j (by decide), sa_j (by decide)]
      refine ⟨p1, p2, p3, ?_⟩
      rw [delP_eq hw]
      by_cases e : q = o
      · rw [e, sa_same, uN_s]; rfl
      · rw [sa_i e, uN_o e]; exact p4
  | succ k ih =>
    intro i n σ hi hn h
    obtain ⟨m, rfl⟩ : ∃ m, n = m + 1 := ⟨n - 1, by omega⟩
    have gi : gx_in (nI i) 12 := nI_in (by omega) (by decide)
    rw [fX3_remove_2_s, c_A h, n_le (by omega) (by omega), if_neg (by omega), gx_chk_t gi, c_sup hA h (by omega), dP_i]
    by_cases e2 : P i = some o
    · rw [if_pos (by rw [e2]; rfl), gx_chk_t go, gx_chk_t gi, c_sup hA h hoA, dP_o hw ho h0, nI_clamp (by omega), nI_1]
      refine ih (i + 1) m _ (by omega) (by omega) ⟨h.1, fun q hq => ?_, fun q hq => ?_⟩
      · rw [sa_j (by decide), h.2.1 q hq, hv_dP hw ho h0, hv_dP hw ho h0]
      · obtain ⟨p1, p2, p3, p4⟩ := h.2.2 q hq
        rw [sa_j (by decide), sa_j (by decide), sa_j (by decide)]
        refine ⟨p1, p2, p3, ?_⟩
        rw [dP_s]
        by_cases e : q = i
        · rw [e, sa_same, uN_s, if_pos e2]
        · rw [sa_i e, uN_o e]; exact p4
    · have e8 : ¬ pI (P i) = nI o := by
        cases e9 : P i with
        | none => exact fun q => n_m1 (by omega) q.symm
        | some p =>
          have hp := (hw.2.2.2.2.1 i p e9).1
          intro q
          have := (nI_eq (by omega) (by omega)).mp (show nI p = nI o from q)
          exact e2 (by rw [e9, this])
      rw [if_neg e8, nI_1]
      exact ih (i + 1) m σ (by omega) (by omega) (by rw [dP_same e2]; exact h)
theorem dP_0 {o : Nat} : dP P o 0 = P := by
  funext j
  unfold dP
  rw [if_neg (fun q => Nat.not_lt_zero _ q.1)]
theorem c_orem (hw : wT A R P) {o : Nat} (ho : hv P o = true) (h0 : o ≠ 0) (h : zO A R L F P σ) : ∃ σ', fX3_remove σ (nI o) = some σ' ∧ zO A R L F (delP P o) σ' := by
  have hA := hw.2.1
  exact c_orem2 hw ho h0 A 0 2000 σ (by omega) (by omega) (by rw [dP_0]; exact h)
theorem c_leave {V : AN} {w : Nat} {τ : NS} {o : Nat} (hw : wO V w) (ho : hv V.1.2.2.2.2 o = true) (h0 : o ≠ 0) (h : zN V w τ) : ∃ τ', fX2_discharge τ (nI o) = some τ' ∧ zN (lvs o V w).1 (lvs o V w).2 τ' := by
  obtain ⟨hT, hL, hF, hK, hwK, hE, hB⟩ := hw
  have hA := hT.2.1
  have hoA := hv_lt hT ho
  obtain ⟨g1, g2, g3, g4, g5, g6, g7⟩ := h
  obtain ⟨σ', r1, r2⟩ := c_orem hT ho h0 g1
  obtain ⟨τ', d1, d2, d3, d4, d5, d6, d7⟩ := c_dis18 (o := o) (by omega) V.2.1.length 2000 (V.2.1, w) V.2.2.2.2.2.2 (τ.1, σ', τ.2.2) hK (Nat.le_refl _) hwK (fun e he => by have := hv_lt hT (hE e he).1; omega) (by omega) g2 g7
  refine ⟨τ', ?_, ?_⟩
  · unfold fX2_discharge
    rw [r1, gx_b_some, show os_f τ.2.2.1 3 = nI V.2.1.length from g2.1, dn_l]
    exact d1
  · refine ⟨?_, d2, ?_, ?_, ?_, ?_, d3⟩
    · rw [d4]; exact r2
    · rw [d5]; exact g3
    · rw [d7 3 (by decide)]; exact g4
    · rw [d7 4 (by decide)]; exact g5
    · rw [d7 5 (by decide)]; exact g6
/-! the reference's side -/
theorem sa_off {o c j d : Nat} {v : Int32} (hc : c < 5) (hd : d < 5) : (os_sa σ 1 (7 + 5 * o + c) v).2 1 (7 + 5 * j + d) = if j = o ∧ d = c then v else σ.2 1 (7 + 5 * j + d) := by
  by_cases e : j = o ∧ d = c
  · rw [if_pos e, e.1, e.2, sa_same]
  · rw [if_neg e, sa_i (by omega)]
theorem m_lv16 (hw : wT A R P) {o : Nat} (ho : hv P o = true) (h0 : o ≠ 0) (r : Int32) : ∀ (k i n : Nat) (σ : OS), i + k = A → k < n → zM A R L F (dP P o i) (σ.2 1) → ∃ σ' , fX9_leaves_16 n σ (nI o) r (pI (P o)) (nI i) = fX9_leaves_87 2000 σ' (nI o) r (σ.2 1 5 - 1) ∧ fr1 σ σ' ∧ zM A R L F (delP P o) (σ'.2 1) ∧ ∀ i, i < 7 ∨ 67 ≤ i → σ'.2 1 i = σ.2 1 i := by
  have hA := hw.2.1
  have hoA := hv_lt hw ho
  intro k
  induction k with
  | zero =>
    intro i n σ hi hn h
    obtain ⟨m, rfl⟩ : ∃ m, n = m + 1 := ⟨n - 1, by omega⟩
    have e : i = A := by omega
    subst e
    refine ⟨os_sa (os_sa σ 1 (7 + 5 * o + 0) 0) 1 (7 + 5 * o + 4) (-1), ?_, fr1_tr fr1_sa fr1_sa, ⟨?_, fun q hq => ?_⟩, fun i hi => ?_⟩
    · rw [fX9_leaves_16_s, gx_chk_t gi0, m_A h, n_le (by omega) (by omega), if_pos (by omega), show fX9_sets σ (nI o) (0 : Int32) (0 : Int32) = some (os_sa σ 1 (7 + 5 * o + 0) 0) from m_sets (w := 0) (by omega) (by omega), gx_b_some, show fX9_sets (os_sa σ 1 (7 + 5 * o + 0) 0) (nI o) (4 : Int32) (-1 : Int32) = some (os_sa (os_sa σ 1 (7 + 5 * o + 0) 0) 1 (7 + 5 * o + 4) (-1)) from m_sets (w := 4) (by omega) (by omega), gx_b_some, gx_chk_t gi5, tc5]
      show fX9_leaves_87 2000 _ (nI o) r ((os_sa (os_sa σ 1 (7 + 5 * o + 0) 0) 1 (7 + 5 * o + 4) (-1)).2 1 5 - 1) = _
      rw [sa_i (by omega), sa_i (by omega)]
    · rw [sa_i (by omega), sa_i (by omega)]; exact h.1
    · obtain ⟨p0, p1, p2, p3, p4⟩ := h.2 q hq
      rw [hv_dP hw ho h0] at p0
      rw [hv_del hw ho h0, delP_eq hw]
      simp only [sa_off (show 4 < 5 by decide) (show 0 < 5 by decide), sa_off (show 4 < 5 by decide) (show 1 < 5 by decide), sa_off (show 4 < 5 by decide) (show 2 < 5 by decide), sa_off (show 4 < 5 by decide) (show 3 < 5 by decide), sa_off (show 4 < 5 by decide) (show 4 < 5 by decide), sa_off (show 0 < 5 by decide) (show 0 < 5 by decide), sa_off (show 0 < 5 by decide) (show 1 < 5 by decide), sa_off (show 0 < 5 by decide) (show 2 < 5 by decide), sa_off (show 0 < 5 by decide) (show 3 < 5 by decide), sa_off (show 0 < 5 by decide) (show 4 < 5 by decide), p0, p1, p2, p3, p4]
      by_cases e : q = o
      · subst e
        rw [uN_s]
        simp [b1, pI]
      · rw [uN_o e]
        simp [e]
    · rw [sa_i (by omega), sa_i (by omega)]
  | succ k ih =>
    intro i n σ hi hn h
    obtain ⟨m, rfl⟩ : ∃ m, n = m + 1 := ⟨n - 1, by omega⟩
    rw [fX9_leaves_16_s, gx_chk_t gi0, m_A h, n_le (by omega) (by omega), if_neg (by omega), m_of0 hA h (by omega), gx_b_some, m_of4 hA h (by omega), gx_b_some, dP_i, hv_dP hw ho h0]
    by_cases e2 : P i = some o
    · have hso : fX9_sets σ (nI i) (4 : Int32) (pI (P o)) = some (os_sa σ 1 (7 + 5 * i + 4) (pI (P o))) := m_sets (w := 4) (by omega) (by omega)
      have hz : zM A R L F (dP P o (i + 1)) ((os_sa σ 1 (7 + 5 * i + 4) (pI (P o))).2 1) := by
        refine ⟨by rw [sa_i (by omega)]; exact h.1, fun q hq => ?_⟩
        obtain ⟨p0, p1, p2, p3, p4⟩ := h.2 q hq
        rw [hv_dP hw ho h0] at p0
        rw [hv_dP hw ho h0, dP_s]
        simp only [sa_off (show 4 < 5 by decide) (show 0 < 5 by decide), sa_off (show 4 < 5 by decide) (show 1 < 5 by decide), sa_off (show 4 < 5 by decide) (show 2 < 5 by decide), sa_off (show 4 < 5 by decide) (show 3 < 5 by decide), sa_off (show 4 < 5 by decide) (show 4 < 5 by decide), p0, p1, p2, p3, p4]
        by_cases e : q = i
        · subst e
          rw [uN_s, if_pos e2]
          simp
        · rw [uN_o e]
          simp [e]
      obtain ⟨σ', i1, i2, i3, i4⟩ := ih (i + 1) m (os_sa σ 1 (7 + 5 * i + 4) (pI (P o))) (by omega) (by omega) hz
      refine ⟨σ', ?_, fr1_tr fr1_sa i2, i3, fun j hj => ?_⟩
      · rw [hv_some e2, b1_t, if_pos rfl, if_pos (by rw [e2]; rfl), hso, gx_b_some, nI_1, i1, sa_i (by omega)]
      · rw [i4 j hj, sa_i (by omega)]
    · have e8 : ¬ pI (P i) = nI o := by
        cases e9 : P i with
        | none => exact fun q => n_m1 (by omega) q.symm
        | some p =>
          have hp := (hw.2.2.2.2.1 i p e9).1
          intro q
          have := (nI_eq (by omega) (by omega)).mp (show nI p = nI o from q)
          exact e2 (by rw [e9, this])
      obtain ⟨σ', i1, i2, i3, i4⟩ := ih (i + 1) m σ (by omega) (by omega) (by rw [dP_same e2]; exact h)
      refine ⟨σ', ?_, i2, i3, i4⟩
      rw [if_neg e8, ite_self, nI_1, i1]
theorem m_leave {V : AN} {w : Nat} {o : Nat} (hw : wO V w) (ho : hv V.1.2.2.2.2 o = true) (h0 : o ≠ 0) (h : zG V w (σ.2 1)) : ∃ σ', fX9_leaves σ (nI o) = some (nI (sr (fun q => i1 (V.1.2.2.2.2 q = some o)) 0 V.1.1), σ') ∧ fr1 σ σ' ∧ zG (lvs o V w).1 (lvs o V w).2 (σ'.2 1) := by
  obtain ⟨hT, hL, hF, hK, hwK, hE, hB⟩ := hw
  have hA := hT.2.1
  have hoA := hv_lt hT ho
  obtain ⟨g1, g2, g3, g4, g5, g6, g7⟩ := h
  obtain ⟨σ1, r1, r2, r3, r4⟩ := m_lv16 hT ho h0 (nI (sr (fun q => i1 (V.1.2.2.2.2 q = some o)) 0 V.1.1)) V.1.1 0 2000 σ (by omega) (by omega) (by rw [dP_0]; exact g1)
  have hS1 : zS V.2.1 w (σ1.2 1) := by
    refine ⟨by rw [r4 5 (by omega)]; exact g2.1, fun k e he => ?_⟩
    rw [r4 _ (by omega), r4 _ (by omega), r4 _ (by omega), r4 _ (by omega)]
    exact g2.2 k e he
  obtain ⟨σ', d1, d2, d3, d4, d5⟩ := m_dis87 (o := o) (by omega) (nI (sr (fun q => i1 (V.1.2.2.2.2 q = some o)) 0 V.1.1)) V.2.1.length 2000 (V.2.1, w) V.2.2.2.2.2.2 σ1 hK (Nat.le_refl _) hwK (fun e he => by have := hv_lt hT (hE e he).1; omega) (by omega) hS1 (by rw [r4 4 (by omega)]; exact g7)
  refine ⟨σ', ?_, fr1_tr r2 d4, ?_, d2, ?_, ?_, ?_, ?_, d3⟩
  · unfold fX9_leaves
    rw [m_under hT g1 (by omega), gx_b_some, m_of4 hA g1 hoA, gx_b_some, show (0 : Int32) = nI 0 from rfl, r1, show σ.2 1 5 = nI V.2.1.length from g2.1, dn_l]
    exact d1
  · refine ⟨by rw [d5 0 (by omega) (by omega) (by omega)]; exact r3.1, fun q hq => ?_⟩
    have hq2 : q < 12 := by
      have : q < V.1.1 := hq
      omega
    rw [d5 _ (by omega) (by omega) (by omega), d5 _ (by omega) (by omega) (by omega), d5 _ (by omega) (by omega) (by omega), d5 _ (by omega) (by omega) (by omega), d5 _ (by omega) (by omega) (by omega)]
    exact r3.2 q hq
  · refine ⟨by rw [d5 6 (by omega) (by omega) (by omega), r4 6 (by omega)]; exact g3.1, fun k e he => ?_⟩
    rw [d5 _ (by omega) (by omega) (by omega), d5 _ (by omega) (by omega) (by omega), r4 _ (by omega), r4 _ (by omega)]
    exact g3.2 k e he
  · rw [d5 1 (by omega) (by omega) (by omega), r4 1 (by omega)]; exact g4
  · rw [d5 2 (by omega) (by omega) (by omega), r4 2 (by omega)]; exact g5
  · rw [d5 3 (by omega) (by omega) (by omega), r4 3 (by omega)]; exact g6
theorem lvs_wO {V : AN} {w : Nat} {o : Nat} (hw : wO V w) (ho : hv V.1.2.2.2.2 o = true) (h0 : o ≠ 0) : wO (lvs o V w).1 (lvs o V w).2 ∧ (lvs o V w).1.2.1.length - (lvs o V w).2 ≤ V.2.1.length - w ∧ tot (lvs o V w).1 = tot V := by
  obtain ⟨hT, hL, hF, hK, hwK, hE, hB⟩ := hw
  obtain ⟨d1, d2, d3, d4, d5⟩ := dis_ok o V.2.1.length (V.2.1, w) (Nat.le_refl _) hwK
  have d6 := d5 (fun i e hi he => by
    have h9 : i < V.2.1.length := get_lt he
    exact absurd hi (Nat.not_le.mpr h9))
  have hh := hv_del hT ho h0
  refine ⟨⟨delP_wT hT ho h0, hL, fun q hq => ?_, ?_, d1, fun e he => ?_, hB⟩, d3, ?_⟩
  · have hq2 : hv (delP V.1.2.2.2.2 o) q = true := hq
    rw [hh] at hq2
    by_cases e : q = o
    · rw [if_pos e] at hq2; cases hq2
    · rw [if_neg e] at hq2; exact hF q hq2
  · show (dis o V.2.1.length (V.2.1, w)).1.1.length ≤ 6
    have d2' : (dis o V.2.1.length (V.2.1, w)).1.1.length + (dis o V.2.1.length (V.2.1, w)).2 = V.2.1.length := d2
    omega
  · obtain ⟨q1, q2, q3⟩ := hE e (d4 e he)
    refine ⟨?_, q2, q3⟩
    show hv (delP V.1.2.2.2.2 o) e.1 = true
    rw [hh, if_neg (d6 e he)]
    exact q1
  · have d2' : (dis o V.2.1.length (V.2.1, w)).1.1.length + (dis o V.2.1.length (V.2.1, w)).2 = V.2.1.length := d2
    show V.2.2.2.2.1 + V.2.2.2.2.2.1 + (V.2.2.2.2.2.2 + (dis o V.2.1.length (V.2.1, w)).2) + (dis o V.2.1.length (V.2.1, w)).1.1.length = V.2.2.2.2.1 + V.2.2.2.2.2.1 + V.2.2.2.2.2.2 + V.2.1.length
    omega
end Leave
