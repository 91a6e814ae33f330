/-! orders: what both sides do to the list of orders and to the number of those already visited -/
abbrev ON : Type := Nat × Nat × Nat
def zQ (K : List ON) (w : Nat) (σ : OS) : Prop := σ.1 3 = nI K.length ∧ σ.1 4 = nI w ∧ ∀ k e, K[k]? = some e → σ.2 0 k = nI e.1 ∧ σ.2 1 k = nI e.2.1 ∧ σ.2 2 k = nI e.2.2
def zS (K : List ON) (w : Nat) (s : Nat → Int32) : Prop := s 5 = nI K.length ∧ ∀ k e, K[k]? = some e → s (67 + 4 * k + 0) = nI e.1 ∧ s (67 + 4 * k + 1) = nI e.2.1 ∧ s (67 + 4 * k + 2) = nI e.2.2 ∧ s (67 + 4 * k + 3) = (if k < w then 1 else 0)
def del1 (k : Nat) (q : List ON × Nat) : List ON × Nat := (q.1.eraseIdx k, if k < q.2 then q.2 - 1 else q.2)
def dis (o : Nat) : Nat → List ON × Nat → (List ON × Nat) × Nat
  | 0, q => (q, 0)
  | j + 1, q => match q.1[j]? with
    | none => dis o j q
    | some e => if e.1 = o then ((dis o j (del1 j q)).1, (dis o j (del1 j q)).2 + 1) else dis o j q
theorem ei_get {K : List ON} {k j : Nat} : (K.eraseIdx k)[j]? = if j < k then K[j]? else K[j + 1]? := List.getElem?_eraseIdx
theorem get_lt {α : Type} {K : List α} {k : Nat} {e : α} (h : K[k]? = some e) : k < K.length := (List.getElem?_eq_some_iff.mp h).1
theorem lt_get {α : Type} {K : List α} {k : Nat} (h : k < K.length) : ∃ e, K[k]? = some e := ⟨K[k], List.getElem?_eq_getElem h⟩
section Ord
variable {σ : OS}
theorem sa_same {j i : Nat} {v : Int32} : (os_sa σ j i v).2 j i = v := by simp [os_sa, upd]
theorem sa_i {j i k : Nat} {v : Int32} (h : k ≠ i) : (os_sa σ j i v).2 j k = σ.2 j k := by simp [os_sa, upd, h]
theorem sa_j {j i q : Nat} {v : Int32} (h : q ≠ j) : (os_sa σ j i v).2 q = σ.2 q := by simp [os_sa, h]
theorem sa_f {j i : Nat} {v : Int32} : (os_sa σ j i v).1 = σ.1 := rfl
theorem sf_same {k : Nat} {v : Int32} : (os_sf σ k v).1 k = v := by simp [os_sf, upd]
theorem sf_k {k j : Nat} {v : Int32} (h : j ≠ k) : (os_sf σ k v).1 j = σ.1 j := by simp [os_sf, upd, h]
theorem sf_a {k : Nat} {v : Int32} : (os_sf σ k v).2 = σ.2 := rfl
theorem c_rem4 {K : List ON} {w k : Nat} (hK : K.length ≤ 6) (hk : k < K.length) (hw : w ≤ K.length) : ∀ (d j n : Nat) (σ : OS), j + d = K.length → k < j → d < n → σ.1 3 = nI K.length → σ.1 4 = nI w → (∀ i e, i + 1 < j → (K.eraseIdx k)[i]? = some e → σ.2 0 i = nI e.1 ∧ σ.2 1 i = nI e.2.1 ∧ σ.2 2 i = nI e.2.2) → (∀ i e, j ≤ i → K[i]? = some e → σ.2 0 i = nI e.1 ∧ σ.2 1 i = nI e.2.1 ∧ σ.2 2 i = nI e.2.2) → ∃ σ', fX4_remove_4 n σ (nI k) (nI j) = some σ' ∧ zQ (del1 k (K, w)).1 (del1 k (K, w)).2 σ' := by
  intro d
  induction d with
  | zero =>
    intro j n σ hj hkj hn h3 h4 ha hb
    obtain ⟨m, rfl⟩ : ∃ m, n = m + 1 := ⟨n - 1, by omega⟩
    have hlen : (K.eraseIdx k).length = K.length - 1 := List.length_eraseIdx_of_lt hk
    have e3 : (os_sf σ 3 (os_f σ 3 - 1)).1 3 = nI (K.length - 1) := by
      rw [sf_same, show os_f σ 3 = nI K.length from h3, show (1 : Int32) = nI 1 from rfl, n_sub (by omega)]
    have e4 : os_f (os_sf σ 3 (os_f σ 3 - 1)) 4 = nI w := by
      show (os_sf σ 3 (os_f σ 3 - 1)).1 4 = _
      rw [sf_k (by decide)]; exact h4
    have harr : ∀ i e, (K.eraseIdx k)[i]? = some e → σ.2 0 i = nI e.1 ∧ σ.2 1 i = nI e.2.1 ∧ σ.2 2 i = nI e.2.2 := fun i e he => by
      have := get_lt he
      exact ha i e (by omega) he
    rw [fX4_remove_4_s, show os_f σ 3 = nI K.length from h3, n_le (by omega) (by omega), if_pos (by omega)]
    rw [show os_f σ 3 = nI K.length from h3] at e3 e4
    rw [e4, n_le (by omega) (by omega)]
    by_cases e : w ≤ k
    · rw [if_pos e]
      refine ⟨_, rfl, ?_, ?_, harr⟩
      · show _ = nI (K.eraseIdx k).length
        rw [hlen]; exact e3
      · show (os_sf σ 3 (nI K.length - 1)).1 4 = nI (if k < w then w - 1 else w)
        rw [if_neg (by omega)]; exact e4
    · rw [if_neg e]
      refine ⟨_, rfl, ?_, ?_, harr⟩
      · show _ = nI (K.eraseIdx k).length
        rw [hlen, sf_k (by decide)]; exact e3
      · show _ = nI (if k < w then w - 1 else w)
        rw [if_pos (by omega), sf_same, show (1 : Int32) = nI 1 from rfl, n_sub (by omega)]
  | succ d ih =>
    intro j n σ hj hkj hn h3 h4 ha hb
    obtain ⟨m, rfl⟩ : ∃ m, n = m + 1 := ⟨n - 1, by omega⟩
    have gj : gx_in (nI j) 6 := nI_in (by omega) (by decide)
    have gj1 : gx_in (nI (j - 1)) 6 := nI_in (by omega) (by decide)
    have ej : nI j - 1 = nI (j - 1) := by rw [show (1 : Int32) = nI 1 from rfl, n_sub (by omega)]
    rw [fX4_remove_4_s, show os_f σ 3 = nI K.length from h3, n_le (by omega) (by omega), if_neg (by omega)]
    simp only [ej, gx_chk_t gj, gx_chk_t gj1, nI_1]
    rw [nI_clamp (show j < 2 ^ 31 by omega), nI_clamp (show j - 1 < 2 ^ 31 by omega)]
    obtain ⟨e, he⟩ := lt_get (K := K) (k := j) (by omega)
    obtain ⟨q1, q2, q3⟩ := hb j e (Nat.le_refl _) he
    refine ih (j + 1) m _ (by omega) (by omega) (by omega) h3 h4 (fun i e' hi he' => ?_) (fun i e' hi he' => ?_)
    · by_cases e9 : i = j - 1
      · subst e9
        rw [ei_get, if_neg (by omega), show j - 1 + 1 = j by omega, he] at he'
        cases he'
        simp only [os_sa, os_a, upd]
        simp [upd, q1, q2, q3]
      · obtain ⟨p1, p2, p3⟩ := ha i e' (by omega) he'
        simp only [os_sa, os_a, upd]
        simp [upd, e9, p1, p2, p3]
    · obtain ⟨p1, p2, p3⟩ := hb i e' (by omega) he'
      have e9 : ¬ i = j - 1 := by omega
      simp only [os_sa, os_a, upd]
      simp [upd, e9, p1, p2, p3]
theorem c_rem {K : List ON} {w k : Nat} (hK : K.length ≤ 6) (hk : k < K.length) (hw : w ≤ K.length) (h : zQ K w σ) : ∃ σ', fX4_remove σ (nI k) = some σ' ∧ zQ (del1 k (K, w)).1 (del1 k (K, w)).2 σ' := by
  unfold fX4_remove
  rw [nI_1]
  refine c_rem4 hK hk hw (K.length - (k + 1)) (k + 1) 2000 σ (by omega) (by omega) (by omega) h.1 h.2.1 (fun i e hi he => ?_) (fun i e hi he => h.2.2 i e he)
  rw [ei_get, if_pos (by omega)] at he
  exact h.2.2 i e he
/-- only the row of numbers of the navy may differ -/
def fr1 (σ σ' : OS) : Prop := σ'.1 = σ.1 ∧ ∀ q, q ≠ 1 → σ'.2 q = σ.2 q
theorem fr1_rf : fr1 σ σ := ⟨rfl, fun _ _ => rfl⟩
theorem fr1_tr {a b c : OS} (h : fr1 a b) (g : fr1 b c) : fr1 a c := ⟨g.1.trans h.1, fun q hq => (g.2 q hq).trans (h.2 q hq)⟩
theorem fr1_sa {i : Nat} {v : Int32} : fr1 σ (os_sa σ 1 i v) := ⟨rfl, fun _ hq => sa_j hq⟩
theorem m_drop13 {k left : Nat} (hk : k ≤ left) (hl : left ≤ 5) : ∀ (d j n : Nat) (σ : OS), j + d = 4 * left → 4 * k ≤ j → d < n → ∃ σ', fX9_drops_13 n σ (nI left) (nI j) = fX9_drops_48 2000 σ' (nI left) (nI 0) ∧ fr1 σ σ' ∧ ∀ i, σ'.2 1 i = if 67 + j ≤ i ∧ i < 67 + 4 * left then σ.2 1 (i + 4) else σ.2 1 i := by
  intro d
  induction d with
  | zero =>
    intro j n σ hj hkj hn
    obtain ⟨m, rfl⟩ : ∃ m, n = m + 1 := ⟨n - 1, by omega⟩
    refine ⟨σ, ?_, fr1_rf, fun i => by rw [if_neg (by omega)]⟩
    rw [fX9_drops_13_s, show (4 : Int32) = nI 4 from rfl, n_mul, n_le (by omega) (by omega), if_pos (by omega)]
    rfl
  | succ d ih =>
    intro j n σ hj hkj hn
    obtain ⟨m, rfl⟩ : ∃ m, n = m + 1 := ⟨n - 1, by omega⟩
    have e1 : (67 : Int32) + nI j = nI (67 + j) := nI_add 67 j
    have e2 : nI (67 + j) + (4 : Int32) = nI (67 + j + 4) := nI_add (67 + j) 4
    obtain ⟨σ', h1, h2, h3⟩ := ih (j + 1) m (os_sa σ 1 (67 + j) (σ.2 1 (67 + j + 4))) (by omega) (by omega) (by omega)
    refine ⟨σ', ?_, fr1_tr fr1_sa h2, fun i => ?_⟩
    · rw [fX9_drops_13_s, show (4 : Int32) * nI left = nI (4 * left) from n_mul 4 left, n_le (by omega) (by omega), if_neg (by omega), e1, e2, gx_chk_t (nI_in (by omega) (by decide)), gx_chk_t (nI_in (by omega) (by decide)), nI_clamp (by omega), nI_clamp (by omega), nI_1]
      exact h1
    · rw [h3 i]
      by_cases e : i = 67 + j
      · subst e
        rw [if_neg (by omega), if_pos (by omega), sa_same]
      · by_cases e3 : 67 + (j + 1) ≤ i ∧ i < 67 + 4 * left
        · rw [if_pos e3, if_pos (by omega), sa_i (by omega)]
        · rw [if_neg e3, if_neg (by omega), sa_i e]
theorem m_drop48 {left : Nat} (hl : left ≤ 5) : ∀ (d j n : Nat) (σ : OS), j + d = 4 → d < n → ∃ σ', fX9_drops_48 n σ (nI left) (nI j) = some σ' ∧ fr1 σ σ' ∧ ∀ i, σ'.2 1 i = if i = 5 then nI left else if 67 + 4 * left + j ≤ i ∧ i < 67 + 4 * left + 4 then 0 else σ.2 1 i := by
  intro d
  induction d with
  | zero =>
    intro j n σ hj hn
    obtain ⟨m, rfl⟩ : ∃ m, n = m + 1 := ⟨n - 1, by omega⟩
    refine ⟨os_sa σ 1 5 (nI left), ?_, fr1_sa, fun i => ?_⟩
    · rw [fX9_drops_48_s, if_pos (show (4 : Int32) ≤ nI j from (nI_leI (a := 4) (by decide) (by omega)).mpr (by omega)), gx_chk_t gi5, tc5]
    · by_cases e : i = 5
      · subst e; rw [sa_same, if_pos rfl]
      · rw [sa_i e, if_neg e, if_neg (by omega)]
  | succ d ih =>
    intro j n σ hj hn
    obtain ⟨m, rfl⟩ : ∃ m, n = m + 1 := ⟨n - 1, by omega⟩
    have e1 : ((67 : Int32) + (4 : Int32) * nI left) + nI j = nI (67 + 4 * left + j) := by
      show (nI 67 + nI 4 * nI left) + nI j = _
      rw [n_mul, nI_add, nI_add]
    obtain ⟨σ', h1, h2, h3⟩ := ih (j + 1) m (os_sa σ 1 (67 + 4 * left + j) 0) (by omega) (by omega)
    refine ⟨σ', ?_, fr1_tr fr1_sa h2, fun i => ?_⟩
    · rw [fX9_drops_48_s, if_neg (show ¬ (4 : Int32) ≤ nI j from fun q => by have := (nI_leI (a := 4) (by decide) (by omega)).mp q; omega), e1, gx_chk_t (nI_in (by omega) (by decide)), nI_clamp (by omega), nI_1]
      exact h1
    · rw [h3 i]
      by_cases e5 : i = 5
      · rw [if_pos e5, if_pos e5]
      · rw [if_neg e5, if_neg e5]
        by_cases e : i = 67 + 4 * left + j
        · subst e
          rw [if_neg (by omega), if_pos (by omega), sa_same]
        · by_cases e3 : 67 + 4 * left + (j + 1) ≤ i ∧ i < 67 + 4 * left + 4
          · rw [if_pos e3, if_pos (by omega)]
          · rw [if_neg e3, if_neg (by omega), sa_i e]
theorem m_drop {K : List ON} {w k : Nat} (hK : K.length ≤ 6) (hk : k < K.length) (hw : w ≤ K.length) (h : zS K w (σ.2 1)) : ∃ σ', fX9_drops σ (nI k) = some σ' ∧ fr1 σ σ' ∧ zS (del1 k (K, w)).1 (del1 k (K, w)).2 (σ'.2 1) ∧ ∀ i, i < 67 ∨ 91 ≤ i → i ≠ 5 → σ'.2 1 i = σ.2 1 i := by
  obtain ⟨σ1, h1, h2, h3⟩ := m_drop13 (k := k) (left := K.length - 1) (by omega) (by omega) (4 * (K.length - 1) - 4 * k) (4 * k) 2000 σ (by omega) (by omega) (by omega)
  obtain ⟨σ2, g1, g2, g3⟩ := m_drop48 (left := K.length - 1) (by omega) 4 0 2000 σ1 (by omega) (by omega)
  have hlen : (K.eraseIdx k).length = K.length - 1 := List.length_eraseIdx_of_lt hk
  refine ⟨σ2, ?_, fr1_tr h2 g2, ⟨?_, ?_⟩, ?_⟩
  · unfold fX9_drops
    rw [gx_chk_t gi5, tc5, show os_a σ 1 5 = nI K.length from h.1, show (1 : Int32) = nI 1 from rfl, n_sub (by omega), show (4 : Int32) * nI k = nI (4 * k) from n_mul 4 k, h1, g1]
  · show σ2.2 1 5 = nI (K.eraseIdx k).length
    rw [g3, if_pos rfl, hlen]
  · intro i e he
    have hi := get_lt he
    rw [show (del1 k (K, w)).1 = K.eraseIdx k from rfl] at hi he
    have hv1 : ∀ c, c < 4 → σ2.2 1 (67 + 4 * i + c) = if i < k then σ.2 1 (67 + 4 * i + c) else σ.2 1 (67 + 4 * (i + 1) + c) := by
      intro c hc
      rw [g3, if_neg (by omega), if_neg (by omega), h3]
      by_cases e9 : i < k
      · rw [if_pos e9, if_neg (by omega)]
      · rw [if_neg e9, if_pos (by omega)]
        exact congrArg (σ.2 1) (by omega)
    rw [hv1 0 (by omega), hv1 1 (by omega), hv1 2 (by omega), hv1 3 (by omega)]
    show _ ∧ _ ∧ _ ∧ _ = (if i < (if k < w then w - 1 else w) then (1 : Int32) else 0)
    rw [ei_get] at he
    by_cases e9 : i < k
    · rw [if_pos e9] at he
      obtain ⟨p1, p2, p3, p4⟩ := h.2 i e he
      simp only [if_pos e9]
      refine ⟨p1, p2, p3, ?_⟩
      rw [p4]
      by_cases e8 : k < w
      · rw [if_pos e8, if_pos (by omega), if_pos (by omega)]
      · rw [if_neg e8]
    · rw [if_neg e9] at he
      obtain ⟨p1, p2, p3, p4⟩ := h.2 (i + 1) e he
      simp only [if_neg e9]
      refine ⟨p1, p2, p3, ?_⟩
      rw [p4]
      by_cases e8 : k < w
      · rw [if_pos e8]
        by_cases e7 : i + 1 < w
        · rw [if_pos e7, if_pos (by omega)]
        · rw [if_neg e7, if_neg (by omega)]
      · rw [if_neg e8, if_neg (by omega), if_neg (by omega)]
  · intro i hi hi5
    rw [g3, if_neg hi5, if_neg (by omega), h3, if_neg (by omega)]
theorem del1_le {K : List ON} {w k : Nat} (hk : k < K.length) (hw : w ≤ K.length) : (del1 k (K, w)).2 ≤ (del1 k (K, w)).1.length ∧ (del1 k (K, w)).1.length + 1 = K.length ∧ (del1 k (K, w)).1.length - (del1 k (K, w)).2 ≤ K.length - w := by
  have hlen : (K.eraseIdx k).length = K.length - 1 := List.length_eraseIdx_of_lt hk
  simp only [del1, hlen]
  split <;> omega
/-- what stays of the orders -/
theorem dis_ok (o : Nat) : ∀ (j : Nat) (q : List ON × Nat), j ≤ q.1.length → q.2 ≤ q.1.length → (dis o j q).1.2 ≤ (dis o j q).1.1.length ∧ (dis o j q).1.1.length + (dis o j q).2 = q.1.length ∧ (dis o j q).1.1.length - (dis o j q).1.2 ≤ q.1.length - q.2 ∧ (∀ e ∈ (dis o j q).1.1, e ∈ q.1) ∧ ((∀ i e, j ≤ i → q.1[i]? = some e → e.1 ≠ o) → ∀ e ∈ (dis o j q).1.1, e.1 ≠ o) := by
  intro j
  induction j with
  | zero =>
    intro q h1 h2
    refine ⟨h2, rfl, Nat.le_refl _, fun e he => he, fun h e he => ?_⟩
    obtain ⟨i, hi⟩ := List.getElem?_of_mem he
    exact h i e (Nat.zero_le _) hi
  | succ j ih =>
    intro q h1 h2
    obtain ⟨e, he⟩ := lt_get (K := q.1) (k := j) (by omega)
    by_cases e9 : e.1 = o
    · have ed : dis o (j + 1) q = ((dis o j (del1 j q)).1, (dis o j (del1 j q)).2 + 1) := by
        simp only [dis, he, if_pos e9]
      have hd := del1_le (K := q.1) (w := q.2) (k := j) (by omega) h2
      obtain ⟨i1, i2, i3, i4, i5⟩ := ih (del1 j q) (by have := hd.2.1; simp only [del1] at this ⊢; omega) hd.1
      rw [ed]
      refine ⟨i1, ?_, ?_, fun x hx => ?_, fun h x hx => ?_⟩
      · have := hd.2.1
        simp only [del1] at this i2 ⊢
        omega
      · have := hd.2.2
        simp only [del1] at this i3 ⊢
        omega
      · have := i4 x hx
        simp only [del1] at this
        exact List.mem_of_mem_eraseIdx this
      · refine i5 (fun i x hi hx => ?_) x hx
        simp only [del1] at hx
        rw [ei_get, if_neg (by omega)] at hx
        exact h (i + 1) x (by omega) hx
    · have ed : dis o (j + 1) q = dis o j q := by simp only [dis, he, if_neg e9]
      obtain ⟨i1, i2, i3, i4, i5⟩ := ih q (by omega) h2
      rw [ed]
      refine ⟨i1, i2, i3, i4, fun h x hx => ?_⟩
      refine i5 (fun i x hi hx => ?_) x hx
      by_cases e8 : i = j
      · rw [e8, he] at hx
        cases hx
        exact e9
      · exact h i x (by omega) hx
theorem n_pm {j : Nat} : nI (j + 1) + (-1) = nI j := by
  rw [← nI_1, Int32.add_assoc, show (1 : Int32) + (-1) = 0 by decide, Int32.add_zero]
theorem n_m1eq : nI 0 + (-1) = -1 := by decide
/-- counting down: the place of a loop that has j places left -/
def dn : Nat → Int32
  | 0 => -1
  | j + 1 => nI j
theorem dn_s (j : Nat) : nI j + (-1) = dn j := by
  cases j with
  | zero => exact n_m1eq
  | succ j => exact n_pm
theorem dn_l {j : Nat} : nI j - 1 = dn j := by
  cases j with
  | zero => decide
  | succ j => exact nI_pred j
theorem c_dis18 {o : Nat} (ho : o < 2 ^ 31) : ∀ (j n : Nat) (q : List ON × Nat) (z : Nat) (τ : NS), q.1.length ≤ 6 → j ≤ q.1.length → q.2 ≤ q.1.length → (∀ e ∈ q.1, e.1 < 2 ^ 31) → j < n → zQ q.1 q.2 τ.2.2.1 → τ.1.1 6 = nI z → ∃ τ', fX2_discharge_18 n τ (nI o) (dn j) = some τ' ∧ zQ (dis o j q).1.1 (dis o j q).1.2 τ'.2.2.1 ∧ τ'.1.1 6 = nI (z + (dis o j q).2) ∧ τ'.2.1 = τ.2.1 ∧ τ'.2.2.2 = τ.2.2.2 ∧ τ'.1.2 = τ.1.2 ∧ ∀ k, k ≠ 6 → τ'.1.1 k = τ.1.1 k := by
  intro j
  induction j with
  | zero =>
    intro n q z τ h6 hj hw hb hn hq hz
    obtain ⟨m, rfl⟩ : ∃ m, n = m + 1 := ⟨n - 1, by omega⟩
    refine ⟨τ, ?_, hq, hz, rfl, rfl, rfl, fun _ _ => rfl⟩
    rw [fX2_discharge_18_s, if_pos (show dn 0 < 0 by decide)]
  | succ j ih =>
    intro n q z τ h6 hj hw hb hn hq hz
    obtain ⟨m, rfl⟩ : ∃ m, n = m + 1 := ⟨n - 1, by omega⟩
    obtain ⟨e, he⟩ := lt_get (K := q.1) (k := j) (by omega)
    have hh := (hq.2.2 j e he).1
    have heb := hb e (List.mem_of_getElem? he)
    have hdn : dn (j + 1) = nI j := rfl
    have hs : ∀ (m : Nat) (τ : NS), fX2_discharge_18 (m + 1) τ (nI o) (nI j) = (gx_chk (gx_in (nI j) 6) (if (os_a τ.2.2.1 0 (nI j).toNatClampNeg) = nI o then (gx_b (fX4_remove τ.2.2.1 (nI j)) (fun r40 => (fX2_discharge_18 m (os_sf τ.1 6 ((os_f τ.1 6) + 1), (τ.2.1, r40, τ.2.2.2)) (nI o) (nI j + (-1))))) else (fX2_discharge_18 m τ (nI o) (nI j + (-1))))) := fun m τ => by
      rw [fX2_discharge_18_s, if_neg (nI_pos (by omega))]
    rw [hdn, hs, gx_chk_t (nI_in (by omega) (by decide)), nI_clamp (by omega), show os_a τ.2.2.1 0 j = nI e.1 from hh, n_eq heb ho, dn_s]
    by_cases e9 : e.1 = o
    · have ed : dis o (j + 1) q = ((dis o j (del1 j q)).1, (dis o j (del1 j q)).2 + 1) := by
        simp only [dis, he, if_pos e9]
      have hd := del1_le (K := q.1) (w := q.2) (k := j) (by omega) hw
      obtain ⟨σ', hr, hq'⟩ := c_rem h6 (show j < q.1.length by omega) hw hq
      have hl : (del1 j q).1.length + 1 = q.1.length := hd.2.1
      obtain ⟨τ', g1, g2, g3, g4, g5, g6, g7⟩ := ih m (del1 j q) (z + 1) (os_sf τ.1 6 ((os_f τ.1 6) + 1), (τ.2.1, σ', τ.2.2.2)) (by omega) (by omega) hd.1 (fun x hx => hb x (List.mem_of_mem_eraseIdx hx)) (by omega) hq' (by
        show (os_sf τ.1 6 ((os_f τ.1 6) + 1)).1 6 = _
        rw [sf_same, show os_f τ.1 6 = nI z from hz, nI_1])
      rw [if_pos e9, hr, gx_b_some, ed]
      refine ⟨τ', g1, g2, ?_, g4, g5, g6, fun k hk => ?_⟩
      · rw [g3]
        congr 1
        omega
      · rw [g7 k hk]
        exact sf_k hk
    · have ed : dis o (j + 1) q = dis o j q := by simp only [dis, he, if_neg e9]
      obtain ⟨τ', g⟩ := ih m q z τ h6 (by omega) hw hb (by omega) hq hz
      rw [if_neg e9, ed]
      exact ⟨τ', g⟩
theorem m_order {K : List ON} {w k c : Nat} (hk : k < 6) (hc : c < 4) : fX9_order σ (nI k) (nI c) = some (σ.2 1 (67 + 4 * k + c)) := by
  have e1 : ((67 : Int32) + (4 : Int32) * nI k) + nI c = nI (67 + 4 * k + c) := by
    show (nI 67 + nI 4 * nI k) + nI c = _
    rw [n_mul, nI_add, nI_add]
  unfold fX9_order
  rw [e1, gx_chk_t (nI_in (by omega) (by decide)), nI_clamp (by omega)]
theorem m_dis87 {o : Nat} (ho : o < 2 ^ 31) (r : Int32) : ∀ (j n : Nat) (q : List ON × Nat) (z : Nat) (σ : OS), q.1.length ≤ 6 → j ≤ q.1.length → q.2 ≤ q.1.length → (∀ e ∈ q.1, e.1 < 2 ^ 31) → j < n → zS q.1 q.2 (σ.2 1) → σ.2 1 4 = nI z → ∃ σ', fX9_leaves_87 n σ (nI o) r (dn j) = some (r, σ') ∧ zS (dis o j q).1.1 (dis o j q).1.2 (σ'.2 1) ∧ σ'.2 1 4 = nI (z + (dis o j q).2) ∧ fr1 σ σ' ∧ ∀ i, i < 67 ∨ 91 ≤ i → i ≠ 5 → i ≠ 4 → σ'.2 1 i = σ.2 1 i := by
  intro j
  induction j with
  | zero =>
    intro n q z σ h6 hj hw hb hn hq hz
    obtain ⟨m, rfl⟩ : ∃ m, n = m + 1 := ⟨n - 1, by omega⟩
    refine ⟨σ, ?_, hq, hz, fr1_rf, fun _ _ _ _ => rfl⟩
    rw [fX9_leaves_87_s, if_pos (show dn 0 < 0 by decide)]
  | succ j ih =>
    intro n q z σ h6 hj hw hb hn hq hz
    obtain ⟨m, rfl⟩ : ∃ m, n = m + 1 := ⟨n - 1, by omega⟩
    obtain ⟨e, he⟩ := lt_get (K := q.1) (k := j) (by omega)
    have hh := (hq.2 j e he).1
    have heb := hb e (List.mem_of_getElem? he)
    have hdn : dn (j + 1) = nI j := rfl
    rw [hdn, fX9_leaves_87_s, if_neg (nI_pos (by omega)), show fX9_order σ (nI j) (0 : Int32) = some (nI e.1) from (m_order (K := q.1) (w := 0) (c := 0) (by omega) (by omega)).trans (by rw [hh]), gx_b_some, n_eq heb ho, dn_s]
    by_cases e9 : e.1 = o
    · have ed : dis o (j + 1) q = ((dis o j (del1 j q)).1, (dis o j (del1 j q)).2 + 1) := by
        simp only [dis, he, if_pos e9]
      have hd := del1_le (K := q.1) (w := q.2) (k := j) (by omega) hw
      have hl : (del1 j q).1.length + 1 = q.1.length := hd.2.1
      obtain ⟨σ1, hr, hf, hq', hrest⟩ := m_drop h6 (show j < q.1.length by omega) hw hq
      have h4 : σ1.2 1 4 = nI z := (hrest 4 (by omega) (by omega)).trans hz
      obtain ⟨σ', g1, g2, g3, g4, g5⟩ := ih m (del1 j q) (z + 1) (os_sa σ1 1 4 (nI (z + 1))) (by omega) (by omega) hd.1 (fun x hx => hb x (List.mem_of_mem_eraseIdx hx)) (by omega) (by
        refine ⟨by rw [sa_i (by decide)]; exact hq'.1, fun k x hx => ?_⟩
        have hk := get_lt hx
        rw [sa_i (by omega), sa_i (by omega), sa_i (by omega), sa_i (by omega)]
        exact hq'.2 k x hx) sa_same
      rw [if_pos e9, hr, gx_b_some, gx_chk_t gi4, gx_chk_t gi4, tc4, show os_a σ1 1 4 = nI z from h4, nI_1, ed]
      refine ⟨σ', g1, g2, ?_, fr1_tr hf (fr1_tr fr1_sa g4), fun i h1 h2 h3 => ?_⟩
      · rw [g3]
        congr 1
        omega
      · rw [g5 i h1 h2 h3, sa_i h3, hrest i h1 h2]
    · have ed : dis o (j + 1) q = dis o j q := by simp only [dis, he, if_neg e9]
      obtain ⟨σ', g⟩ := ih m q z σ h6 (by omega) hw hb (by omega) hq hz
      rw [if_neg e9, ed]
      exact ⟨σ', g⟩
end Ord
