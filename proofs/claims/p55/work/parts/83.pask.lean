/-! questions: by program (wip/gen/pask.py) -/
theorem th_v {σ : OS} {v : Int32} : os_f (os_sf σ 0 v) 0 = v := sf_same
theorem le10 : ¬ (1 : Int32) ≤ 0 := by decide
theorem le20 : ¬ (2 : Int32) ≤ 0 := by decide
theorem le30 : ¬ (3 : Int32) ≤ 0 := by decide
theorem le00 : (0 : Int32) ≤ 0 := by decide
theorem or_none {α β : Type} {f : α → Option β} {n : Option β} : gx_or (none : Option α) f n = n := rfl
theorem or_some {α β : Type} {a : α} {f : α → Option β} {n : Option β} : gx_or (some a) f n = f a := rfl
theorem zR_V {c : Nat} {k : CS} {σ : OS} (h : zR c k σ) : ∃ V w, wO V 0 ∧ w ≤ V.2.1.length ∧ zN V w k.1 ∧ zG V 0 (σ.2 1) ∧ tot V ≤ c := by
  obtain ⟨V, S, Hs, ⟨w, a0, a1⟩, a2, a3, a4, -⟩ := h
  exact ⟨V, w, a3, a0, a1, a2, a4⟩
section Ask
variable {c : Nat} {k : CS} {σ : OS} {V : AN} {w : Nat}
theorem m_asked_t (hw : wO V w) (hm : zG V 0 (σ.2 1)) {o : Nat} (ho : hv V.1.2.2.2.2 o = true) : fX9_isAsked σ (nI o) = some (1, os_sf σ 0 0) := by
  unfold fX9_isAsked
  rw [m_is_t hw.1 hm.1 ho, gx_b_some, if_neg one0, th_v, if_pos rfl]
theorem m_asked_f (hw : wO V w) (hm : zG V 0 (σ.2 1)) {p : Int32} (hn : ¬ ∃ o, p = nI o ∧ hv V.1.2.2.2.2 o = true) : fX9_isAsked σ p = some (0, os_sf σ 0 1) := by
  unfold fX9_isAsked
  rw [m_is_f hw.1 hm.1 hn, gx_b_some, if_pos rfl, th_v, if_neg one0]
theorem c_req_t (hw : wO V 0) (hc : zN V w k.1) {o : Nat} (ho : hv V.1.2.2.2.2 o = true) : fX8_requireOfficer k (nI o) = some k := by
  unfold fX8_requireOfficer
  rw [c_serves_t hw.1 hc.1 ho, gx_b_some, if_neg one0]
theorem c_req_f (hw : wO V 0) (hc : zN V w k.1) {p : Int32} (hn : ¬ ∃ o, p = nI o ∧ hv V.1.2.2.2.2 o = true) : fX8_requireOfficer k p = none ∧ xX8_requireOfficer k p = some (1, k) := by
  unfold fX8_requireOfficer xX8_requireOfficer
  rw [c_serves_f hw.1 hc.1 hn, gx_b_some, gx_b_some, if_pos rfl, if_pos rfl]
  exact ⟨rfl, rfl⟩
theorem c_way_t (hw : wO V 0) (hc : zN V w k.1) {t o : Nat} (ht : t < 12) (ho : o < V.1.1) (h : t ∈ ch V.1.2.2.2.2 o) : fX8_requireWay k (nI t) (nI o) = some k := by
  unfold fX8_requireWay
  rw [c_over hw.1 hc.1 (by omega) ho, gx_b_some, ab_t h, if_neg one0]
theorem c_way_f (hw : wO V 0) (hc : zN V w k.1) {t o : Nat} (ht : t < 12) (ho : o < V.1.1) (h : t ∉ ch V.1.2.2.2.2 o) : fX8_requireWay k (nI t) (nI o) = none ∧ xX8_requireWay k (nI t) (nI o) = some (3, k) := by
  unfold fX8_requireWay xX8_requireWay
  rw [c_over hw.1 hc.1 (by omega) ho, gx_b_some, gx_b_some, ab_f h, if_pos rfl, if_pos rfl]
  exact ⟨rfl, rfl⟩
theorem m_len {p : Int32} {n : Nat} (hn : n < 2 ^ 31) : (∃ a : Nat, a < n ∧ p = nI a ∧ fX9_in p (0 : Int32) (nI n - 1) = some 1) ∨ ((¬ ∃ a : Nat, a < n ∧ p = nI a) ∧ fX9_in p (0 : Int32) (nI n - 1) = some 0) := by
  by_cases c0 : n = 0
  · subst c0
    refine Or.inr ⟨fun ⟨a, h, _⟩ => Nat.not_lt_zero _ h, ?_⟩
    unfold fX9_in
    by_cases h : p < 0
    · rw [if_pos h]
    · rw [if_neg h, if_pos]
      rw [show nI 0 - (1 : Int32) = -1 by decide]
      rw [Int32.lt_iff_toInt_lt, Int32.toInt_zero] at h
      rw [Int32.lt_iff_toInt_lt, show ((-1 : Int32).toInt) = -1 by decide]
      omega
  · have e1 : nI n - (1 : Int32) = nI (n - 1) := n_sub (a := n) (b := 1) (by omega)
    rw [e1]
    rcases rng p (b := 0) (c := n - 1) (by decide) (by omega) with ⟨a, a1, a2, rfl⟩ | ⟨hx, hy⟩
    · exact Or.inl ⟨a, by omega, rfl, m_in_t (b := 0) a1 a2 (by omega)⟩
    · exact Or.inr ⟨fun ⟨a, h, e⟩ => hx ⟨a, Nat.zero_le _, by omega, e⟩, m_in_f (b := 0) (by decide) (by omega) hx⟩
theorem c_ord (hc : zN V w k.1) (hK : V.2.1.length ≤ 6) (p : Int32) : ((∃ a : Nat, a < V.2.1.length ∧ p = nI a) → fX8_requireOrder k p = some k) ∧ ((¬ ∃ a : Nat, a < V.2.1.length ∧ p = nI a) → fX8_requireOrder k p = none ∧ xX8_requireOrder k p = some (1, k)) := by
  have e : os_f k.1.2.2.1 3 = nI V.2.1.length := hc.2.1.1
  unfold fX8_requireOrder xX8_requireOrder
  rw [e]
  refine ⟨fun ⟨a, ha, h⟩ => ?_, fun h => ?_⟩
  · subst h
    rw [if_neg (nI_pos (by omega)), n_lt (by omega) (by omega), if_pos ha]
  · by_cases h0 : p < 0
    · rw [if_pos h0, if_pos h0]; exact ⟨rfl, rfl⟩
    · obtain ⟨j, hj, rfl⟩ := nI_of h0
      rw [if_neg h0, if_neg h0, n_lt (by omega) (by omega), n_lt (by omega) (by omega), if_neg (fun q => h ⟨j, q, rfl⟩), if_neg (fun q => h ⟨j, q, rfl⟩)]
      exact ⟨rfl, rfl⟩
end Ask
