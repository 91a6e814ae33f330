/-! the ring of the class and the shifted row of the reference; what the two hold in common -/
def hN (Hs : List AN) (h : HS) : Prop := h.1.1 2 = nI Hs.length ∧ ∃ q, q < 8 ∧ h.1.1 1 = nI q ∧ ∀ i U, Hs[i]? = some U → ∃ w, w ≤ U.2.1.length ∧ zN U w (h.2 ((q + 9 + i - Hs.length) % 8))
def hG (Hs : List AN) (σ : OS) : Prop := σ.1 5 = nI Hs.length ∧ ∀ i U, Hs[i]? = some U → zG U 0 (fun k => σ.2 4 (131 * i + k))
def hW (c : Nat) (Hs : List AN) : Prop := Hs.length ≤ 8 ∧ ∀ U ∈ Hs, wO U 0 ∧ tot U ≤ c
def hA (Hs : List AN) (V : AN) : List AN := Hs.drop (Hs.length - 7) ++ [V]
theorem hA_len (Hs : List AN) (V : AN) (h : Hs.length ≤ 8) : (hA Hs V).length = Hs.length - (Hs.length - 7) + 1 := by
  unfold hA
  rw [List.length_append, List.length_drop]
  rfl
theorem hA_get (Hs : List AN) (V : AN) (h : Hs.length ≤ 8) {i : Nat} {U : AN} (hi : (hA Hs V)[i]? = some U) : (i + 1 < (hA Hs V).length ∧ Hs[Hs.length - 7 + i]? = some U) ∨ (i + 1 = (hA Hs V).length ∧ U = V) := by
  have hl := hA_len Hs V h
  have hlt := get_lt hi
  by_cases c : i + 1 < (hA Hs V).length
  · left
    refine ⟨c, ?_⟩
    unfold hA at hi
    rw [List.getElem?_append_left (by rw [List.length_drop]; omega), List.getElem?_drop] at hi
    exact hi
  · right
    refine ⟨by omega, ?_⟩
    unfold hA at hi
    rw [List.getElem?_append_right (by rw [List.length_drop]; omega), show i - (Hs.drop (Hs.length - 7)).length = 0 by rw [List.length_drop]; omega] at hi
    exact (Option.some.inj hi).symm
theorem hW_A {c : Nat} {Hs : List AN} {V : AN} (h : hW c Hs) (hw : wO V 0) (ht : tot V ≤ c) : hW c (hA Hs V) := by
  refine ⟨by rw [hA_len Hs V h.1]; have := h.1; omega, fun U hU => ?_⟩
  unfold hA at hU
  rcases List.mem_append.mp hU with q | q
  · exact h.2 U (List.mem_of_mem_drop q)
  · rw [List.mem_singleton] at q
    rw [q]; exact ⟨hw, ht⟩
theorem n_up8 : ∀ q, q < 8 → ((nI q + 1) - (nI q + 1) / 8 * 8 : Int32) = nI ((q + 1) % 8) := by decide
theorem n_dn8 : ∀ q, q < 8 → (((nI q + 8) - 1) - ((nI q + 8) - 1) / 8 * 8 : Int32) = nI ((q + 7) % 8) := by decide
theorem n_mn8 : ∀ q, q < 9 → (if nI q + 1 < (8 : Int32) then nI q + 1 else 8 : Int32) = nI (q - (q - 7) + 1) := by decide
section Hist
variable {c : Nat} {Hs : List AN} {V : AN} {w : Nat}
theorem c_keep {h : HS} {b : NS} (hl : Hs.length ≤ 8) (hh : hN Hs h) (hw : wO V 0) (hwl : w ≤ V.2.1.length) (hz : zN V w b) : ∃ h', fX1_keep (h, b) = some (h', b) ∧ hN (hA Hs V) h' := by
  obtain ⟨h1, q, hq, h2, h3⟩ := hh
  have hlen := hA_len Hs V hl
  have ea : (((os_f h.1 1) + (1 : Int32)) - ((os_f h.1 1) + (1 : Int32)) / (8 : Int32) * (8 : Int32)) = nI ((q + 1) % 8) := by
    rw [show os_f h.1 1 = nI q from h2]
    exact n_up8 q hq
  have eb : os_f (os_sf h.1 1 (nI ((q + 1) % 8))) 2 = nI Hs.length := by
    show (os_sf h.1 1 (nI ((q + 1) % 8))).1 2 = _
    rw [sf_k (by decide)]; exact h1
  have ec : (if nI Hs.length + (1 : Int32) < (8 : Int32) then nI Hs.length + (1 : Int32) else (8 : Int32)) = nI (hA Hs V).length := by
    rw [hlen]
    exact n_mn8 _ (by omega)
  have ed : os_f (os_sf (os_sf h.1 1 (nI ((q + 1) % 8))) 2 (nI (hA Hs V).length)) 1 = nI ((q + 1) % 8) := by
    show (os_sf (os_sf h.1 1 (nI ((q + 1) % 8))) 2 (nI (hA Hs V).length)).1 1 = _
    rw [sf_k (by decide), sf_same]
  have g9 : gx_in (nI ((q + 1) % 8)) 8 := nI_in (by omega) (by decide)
  have e9 : (nI ((q + 1) % 8)).toNatClampNeg = (q + 1) % 8 := nI_clamp (by omega)
  obtain ⟨a', k1, k2⟩ := c_copy (h.2 ((q + 1) % 8)) hw hz
  unfold fX1_keep
  simp only [ea, eb, ec, ed, gx_chk_t g9, e9, k1, gx_b_some]
  refine ⟨_, rfl, ?_, (q + 1) % 8, by omega, ?_, fun i U hi => ?_⟩
  · show (os_sf (os_sf h.1 1 (nI ((q + 1) % 8))) 2 (nI (hA Hs V).length)).1 2 = _
    rw [sf_same]
  · exact ed
  · show ∃ w, w ≤ U.2.1.length ∧ zN U w (if (((q + 1) % 8 + 9 + i - (hA Hs V).length) % 8) = (q + 1) % 8 then a' else h.2 (((q + 1) % 8 + 9 + i - (hA Hs V).length) % 8))
    rcases hA_get Hs V hl hi with ⟨p1, p2⟩ | ⟨p1, p2⟩
    · rw [if_neg (by omega)]
      have := h3 _ U p2
      rw [show ((q + 1) % 8 + 9 + i - (hA Hs V).length) % 8 = (q + 9 + (Hs.length - 7 + i) - Hs.length) % 8 by omega]
      exact this
    · rw [if_pos (by omega), p2]
      exact ⟨w, hwl, k2⟩
theorem m_changed {σ : OS} (v : Int32) (hl : Hs.length ≤ 8) (hWs : ∀ U ∈ Hs, wO U 0) (hh : hG Hs σ) (hw : wO V 0) (hz : zG V 0 (σ.2 2)) : ∃ σ', fX9_changed σ v = some (v, σ') ∧ hG (hA Hs V) σ' ∧ (∀ k, k ≠ 5 → σ'.1 k = σ.1 k) ∧ ∀ q, q ≠ 4 → σ'.2 q = σ.2 q := by
  obtain ⟨h1, h3⟩ := hh
  have hlen := hA_len Hs V hl
  unfold fX9_changed
  by_cases c8 : Hs.length = 8
  · obtain ⟨σ1, a1, a2, a3, a4⟩ := m_chg11 v 917 0 2000 σ (by omega) (by omega)
    obtain ⟨σ', b1', b2, b3, b4⟩ := m_chg55 v (k := 7) (by omega) 131 0 2000 σ1 (by omega) (by omega) (by rw [a2, h1, c8])
    rw [if_pos (show os_f σ 5 = (8 : Int32) from by rw [show os_f σ 5 = nI Hs.length from h1, c8]; rfl), show (0 : Int32) = nI 0 from rfl, a1]
    refine ⟨σ', b1', ⟨?_, fun i U hi => ?_⟩, fun k hk => by rw [b2, a2], fun q hq => by rw [b3 q hq, a3 q hq]⟩
    · rw [b2, a2, h1, hlen, c8]
    · have hlt := get_lt hi
      rcases hA_get Hs V hl hi with ⟨p1, p2⟩ | ⟨p1, p2⟩
      · refine zG_mv (hWs U (List.mem_of_getElem? p2)) (h3 _ U p2) (fun k hk => ?_)
        rw [b4, if_neg (by omega), a4, if_pos (by omega)]
        exact congrArg (σ.2 4) (by omega)
      · rw [p2]
        refine zG_mv hw hz (fun k hk => ?_)
        rw [b4, if_pos (by omega), a3 2 (by decide)]
        exact congrArg (σ.2 2) (by omega)
  · obtain ⟨σ', b1', b2, b3, b4⟩ := m_chg55 v (k := Hs.length) (by omega) 131 0 2000 (os_sf σ 5 (nI (Hs.length + 1))) (by omega) (by omega) sf_same
    rw [if_neg (show ¬ os_f σ 5 = (8 : Int32) from fun q => c8 ((nI_eq (b := 8) (by omega) (by decide)).mp ((show nI Hs.length = os_f σ 5 from h1.symm).trans q))), show os_f σ 5 = nI Hs.length from h1, nI_1]
    refine ⟨σ', b1', ⟨?_, fun i U hi => ?_⟩, fun k hk => by rw [b2, sf_k hk], fun q hq => (b3 q hq)⟩
    · rw [b2, sf_same, hlen]
      congr 1
      omega
    · have hlt := get_lt hi
      rcases hA_get Hs V hl hi with ⟨p1, p2⟩ | ⟨p1, p2⟩
      · rw [show Hs.length - 7 + i = i by omega] at p2
        refine zG_mv (hWs U (List.mem_of_getElem? p2)) (h3 _ U p2) (fun k hk => ?_)
        rw [b4, if_neg (by omega)]
        rfl
      · rw [p2]
        refine zG_mv hw hz (fun k hk => ?_)
        rw [b4, if_pos (by omega)]
        exact congrArg (σ.2 2) (by omega)
end Hist
def zV (c : Nat) (S : Option AN) (n : NS) (f : Int32) (σ : OS) : Prop := match S with
  | none => f = 0 ∧ σ.1 6 = 0
  | some U => f = 1 ∧ σ.1 6 = 1 ∧ (∃ w, w ≤ U.2.1.length ∧ zN U w n) ∧ zG U 0 (σ.2 3) ∧ wO U 0 ∧ tot U ≤ c
def zX (t : OS) (σ : OS) : Prop := ∃ n, n ≤ 60 ∧ t.1 1 = nI n ∧ σ.1 10 = nI n ∧ ∀ i, i < n → t.2 0 i = σ.2 7 i
def zW (t : OS) (σ : OS) : Prop := ∃ n, n ≤ 60 ∧ t.1 1 = nI n ∧ σ.1 11 = nI n ∧ ∀ i, i < n → t.2 0 i = σ.2 9 i ∧ ∃ x, x < 128 ∧ σ.2 9 i = nI x
/-- what class and reference hold in common, where at most c orders were issued -/
def zR (c : Nat) (k : CS) (σ : OS) : Prop := ∃ (V : AN) (S : Option AN) (Hs : List AN), (∃ w, w ≤ V.2.1.length ∧ zN V w k.1) ∧ zG V 0 (σ.2 1) ∧ wO V 0 ∧ tot V ≤ c ∧ zV c S k.2.2.1 (k.2.2.2.2.2.2.2.1 6) σ ∧ hN Hs k.2.2.2.2.2.2.1 ∧ hG Hs σ ∧ hW c Hs ∧ zX k.2.2.2.2.1 σ ∧ zW k.2.2.2.2.2.1 σ ∧ k.2.2.2.2.2.2.2.1 7 = σ.1 12 ∧ k.2.2.2.2.2.2.2.1 8 = σ.1 13
theorem zV_le {c c' : Nat} (h : c ≤ c') {S : Option AN} {n : NS} {f : Int32} {σ : OS} (hz : zV c S n f σ) : zV c' S n f σ := by
  cases S with
  | none => exact hz
  | some U =>
    obtain ⟨h1, h2, h3, h4, h5, h6⟩ := hz
    exact ⟨h1, h2, h3, h4, h5, Nat.le_trans h6 h⟩
theorem hW_le {c c' : Nat} (h : c ≤ c') {Hs : List AN} (hz : hW c Hs) : hW c' Hs := ⟨hz.1, fun U hU => ⟨(hz.2 U hU).1, Nat.le_trans (hz.2 U hU).2 h⟩⟩
theorem zV_mv {c : Nat} {S : Option AN} {n : NS} {f : Int32} {σ σ' : OS} (hz : zV c S n f σ) (h1 : σ'.1 6 = σ.1 6) (h2 : σ'.2 3 = σ.2 3) : zV c S n f σ' := by
  cases S with
  | none => exact ⟨hz.1, h1.trans hz.2⟩
  | some U =>
    obtain ⟨k1, k2, k3, k4, k5, k6⟩ := hz
    exact ⟨k1, h1.trans k2, k3, by rw [h2]; exact k4, k5, k6⟩
theorem hG_mv {Hs : List AN} {σ σ' : OS} (hz : hG Hs σ) (h1 : σ'.1 5 = σ.1 5) (h2 : σ'.2 4 = σ.2 4) : hG Hs σ' := ⟨h1.trans hz.1, fun i U hi => by rw [h2]; exact hz.2 i U hi⟩
theorem zX_mv {t σ σ' : OS} (hz : zX t σ) (h1 : σ'.1 10 = σ.1 10) (h2 : σ'.2 7 = σ.2 7) : zX t σ' := by
  obtain ⟨n, k1, k2, k3, k4⟩ := hz
  exact ⟨n, k1, k2, h1.trans k3, fun i hi => by rw [h2]; exact k4 i hi⟩
theorem zW_mv {t σ σ' : OS} (hz : zW t σ) (h1 : σ'.1 11 = σ.1 11) (h2 : σ'.2 9 = σ.2 9) : zW t σ' := by
  obtain ⟨n, k1, k2, k3, k4⟩ := hz
  exact ⟨n, k1, k2, h1.trans k3, fun i hi => by rw [h2]; exact k4 i hi⟩
/-- the reference's row 'thrown' (and its answer and its reader's numbers) are its own -/
theorem zR_mv {c c' : Nat} (hc : c ≤ c') {k : CS} {σ σ' : OS} (h : zR c k σ) (h1 : ∀ i, i = 5 ∨ i = 6 ∨ i = 10 ∨ i = 11 ∨ i = 12 ∨ i = 13 → σ'.1 i = σ.1 i) (h2 : ∀ q, q = 1 ∨ q = 3 ∨ q = 4 ∨ q = 7 ∨ q = 9 → σ'.2 q = σ.2 q) : zR c' k σ' := by
  obtain ⟨V, S, Hs, a1, a2, a3, a4, a5, a6, a7, a8, a9, a10, a11, a12⟩ := h
  exact ⟨V, S, Hs, a1, by rw [h2 1 (by omega)]; exact a2, a3, Nat.le_trans a4 hc, zV_le hc (zV_mv a5 (h1 6 (by omega)) (h2 3 (by omega))), a6, hG_mv a7 (h1 5 (by omega)) (h2 4 (by omega)), hW_le hc a8, zX_mv a9 (h1 10 (by omega)) (h2 7 (by omega)), zW_mv a10 (h1 11 (by omega)) (h2 9 (by omega)), a11.trans (h1 12 (by omega)).symm, a12.trans (h1 13 (by omega)).symm⟩
theorem zR_0 {c c' : Nat} (hc : c ≤ c') {k : CS} {σ : OS} (h : zR c k σ) (v : Int32) : zR c' k (os_sf σ 0 v) := zR_mv hc h (fun i hi => sf_k (by omega)) (fun _ _ => rfl)
/-- the code of a refusal -/
def tcd (d : Int32) : Nat := if d = -4 then 4 else if d = -3 then 3 else if d = -2 then 2 else if d = -1 then 1 else 5
theorem x_throw (d : Int32) : xX8_throwFor d = some (tcd d) := by
  unfold xX8_throwFor tcd
  split
  · rfl
  · split
    · rfl
    · split
      · rfl
      · split <;> rfl
theorem m_remembers (σ : OS) : ∃ σ', fX9_remembers σ = some σ' ∧ σ'.1 = (os_sf σ 0 0).1 ∧ (∀ q, q ≠ 2 → σ'.2 q = σ.2 q) ∧ ∀ p, p < 131 → σ'.2 2 p = σ.2 1 p := by
  obtain ⟨σ', h1, h2, h3, h4⟩ := m_rem7 131 0 2000 (os_sf σ 0 0) (by omega) (by omega)
  refine ⟨σ', h1, h2, h3, fun p hp => ?_⟩
  rw [h4, if_pos (by omega)]
  rfl
theorem bk_b {β : Type} (τ : NS) (b : Option (Int32 × OS)) (f : Int32 × NS → Option β) : gx_b (bk τ b) f = gx_b b (fun r => f (r.1, (τ.1, τ.2.1, τ.2.2.1, r.2))) := by
  cases b <;> rfl
