/-! feed, outputChar, undo, save, restore -/
def chr (x : Int32) : Int32 := (x.toUInt32 % 65536).toInt32
theorem nar_c (x : Int32) : vp_nar .char (chr x) = chr x := by
  have h1 : vp_nar .char (chr x) = (chr x).toUInt32.toUInt16.toUInt32.toInt32 := rfl
  have h2 : (chr x).toUInt32 = x.toUInt32 % 65536 := rfl
  rw [h1, h2]
  unfold chr
  congr 1
  apply UInt32.toNat_inj.mp
  simp
theorem chr_s : ∀ x, x < 128 → vp_nar .char (nI x) = nI x ∧ ((nI x).toUInt32 % 65536).toInt32 = nI x := by decide
section Undo
variable {c : Nat} {k : CS} {σ : OS}
theorem ag_feed (h : zR c k σ) (x : Int32) : Ag_feed (zR (c + 60)) k σ (chr x) := by
  have h0 := h
  obtain ⟨V, S, Hs, a1, a2, a3, a4, a5, a6, a7, a8, ⟨n, n1, n2, n3, n4⟩, a10, a11, a12⟩ := h
  have e10 : os_f σ 10 = nI n := n3
  have f10 : ∀ v, os_f (os_sf σ 0 v) 10 = nI n := fun v => (sf_k (by decide)).trans n3
  have t1 : os_f k.2.2.2.2.1 1 = nI n := n2
  unfold Ag_feed fX9_feed fX8_feed xX8_feed fX6_add
  rw [e10, f10, f10, th_v, th_v, t1, nar_c]
  by_cases c6 : n = 60
  · rw [if_pos (show nI n = (60 : Int32) from by rw [c6]; rfl), if_neg le10, if_neg (show ¬ nI n < (60 : Int32) from nI_nlt (a := n) (b := 60) (by omega) (by omega)), gx_b_some, gx_b_some, if_pos rfl]
    refine ⟨_, _, rfl, Or.inr ⟨_, rfl, sf_same, ?_⟩⟩
    exact zR_0 (by omega) h0 1
  · have g60 : gx_in (nI n) 60 := nI_in (by omega) (by decide)
    have en : (nI n).toNatClampNeg = n := nI_clamp (by omega)
    have e11 : os_f (os_sa (os_sf σ 0 0) 7 n (chr x)) 10 + 1 = nI (n + 1) := by
      show (os_sf σ 0 0).1 10 + 1 = _
      rw [sf_k (by decide), n3, nI_1]
    have e12 : os_f (os_sa k.2.2.2.2.1 0 n (chr x)) 1 + 1 = nI (n + 1) := by
      show k.2.2.2.2.1.1 1 + 1 = _
      rw [n2, nI_1]
    rw [if_neg (show ¬ nI n = (60 : Int32) from fun q => c6 ((nI_eq (b := 60) (by omega) (by decide)).mp q)), if_pos le00, gx_chk_t g60, if_pos (show nI n < (60 : Int32) from (nI_ltI (b := 60) (by omega) (by decide)).mpr (by omega)), gx_chk_t g60, en, e11, e12, gx_b_some, gx_b_some, if_neg one0]
    have r1 : os_f (os_sf (os_sa (os_sf σ 0 0) 7 n (chr x)) 10 (nI (n + 1))) 10 = nI (n + 1) := sf_same
    have r2 : os_f (os_sf (os_sa k.2.2.2.2.1 0 n (chr x)) 1 (nI (n + 1))) 1 = nI (n + 1) := sf_same
    rw [r1]
    have f9 : ∀ i, i ≠ 0 → i ≠ 10 → (os_sf (os_sa (os_sf σ 0 0) 7 n (chr x)) 10 (nI (n + 1))).1 i = σ.1 i := fun i i0 i10 => (sf_k i10).trans (show (os_sf σ 0 0).1 i = σ.1 i from sf_k i0)
    refine ⟨_, _, rfl, Or.inl ⟨(k.1, (k.2.1, (k.2.2.1, (k.2.2.2.1, (os_sf (os_sa k.2.2.2.2.1 0 n (chr x)) 1 (nI (n + 1)), k.2.2.2.2.2))))), ?_, ?_, V, S, Hs, a1, a2, a3, by omega, zV_le (by omega) (zV_mv a5 ?_ rfl), a6, hG_mv a7 ?_ rfl, hW_le (by omega) a8, ⟨n + 1, by omega, r2, sf_same, fun i hi => ?_⟩, zW_mv a10 ?_ rfl, a11.trans ?_, a12.trans ?_⟩⟩
    · rw [show os_f ((1 : Int32), os_sf (os_sa k.2.2.2.2.1 0 n (chr x)) 1 (nI (n + 1))).2 1 = nI (n + 1) from r2]
    · show (os_sf (os_sa (os_sf σ 0 0) 7 n (chr x)) 10 (nI (n + 1))).1 0 = 0
      rw [sf_k (by decide)]
      show (os_sf σ 0 0).1 0 = 0
      exact sf_same
    · exact f9 6 (by decide) (by decide)
    · exact f9 5 (by decide) (by decide)
    · show (os_sa k.2.2.2.2.1 0 n (chr x)).2 0 i = (os_sa (os_sf σ 0 0) 7 n (chr x)).2 7 i
      by_cases ci : i = n
      · rw [ci, sa_same, sa_same]
      · rw [sa_i ci, sa_i ci]
        exact n4 i (by omega)
    · exact f9 11 (by decide) (by decide)
    · exact (f9 12 (by decide) (by decide)).symm
    · exact (f9 13 (by decide) (by decide)).symm
theorem ag_outputChar (h : zR c k σ) (p1 : Int32) : Ag_outputChar (zR (c + 60)) k σ p1 := by
  have h0 := h
  obtain ⟨V, S, Hs, a1, a2, a3, a4, a5, a6, a7, a8, a9, ⟨n, n1, n2, n3, n4⟩, a11, a12⟩ := h
  have e11 : os_f σ 11 = nI n := n3
  have t1 : os_f k.2.2.2.2.2.1 1 = nI n := n2
  unfold Ag_outputChar fX9_outputChar fX8_outputChar xX8_outputChar
  rw [e11, t1]
  rcases m_len (p := p1) (n := n) (by omega) with ⟨a, ha, rfl, hi⟩ | ⟨hn, hi⟩
  · obtain ⟨m1, x, hx, m2⟩ := n4 a ha
    obtain ⟨s1, s2⟩ := chr_s x hx
    have ea : (nI a).toNatClampNeg = a := nI_clamp (by omega)
    have y1 : os_a (os_sf σ 0 0) 9 (nI a).toNatClampNeg = nI x := by rw [ea]; exact m2
    have y2 : os_a k.2.2.2.2.2.1 0 (nI a).toNatClampNeg = nI x := by rw [ea]; exact m1.trans m2
    rw [hi, gx_b_some, if_neg one0, th_v, if_pos le00, y1, s2, gx_chk_t (nI_in (by omega) (by decide)), gx_chk_t s1]
    refine ⟨_, _, rfl, Or.inl ⟨?_, sf_same, zR_0 (by omega) h0 0⟩⟩
    rw [if_neg (nI_pos (by omega)), n_lt (by omega) (by omega), if_pos ha, gx_chk_t (nI_in (by omega) (by decide)), y2, gx_chk_t s1]
  · rw [hi, gx_b_some, if_pos rfl, th_v, if_neg le10]
    refine ⟨_, _, rfl, Or.inr ⟨k, ?_, sf_same, zR_0 (by omega) h0 1⟩⟩
    by_cases hp : p1 < 0
    · rw [if_pos hp]
    · obtain ⟨j, hj, rfl⟩ := nI_of hp
      rw [if_neg hp, n_lt (by omega) (by omega), if_neg (fun q => hn ⟨j, q, rfl⟩)]
theorem ag_save (h : zR c k σ) : Ag_save (zR (c + 60)) k σ := by
  obtain ⟨V, S, Hs, ⟨w, a0, a1⟩, a2, a3, a4, a5, a6, a7, a8, a9, a10, a11, a12⟩ := h
  obtain ⟨σ1, m1, m2, m3, m4⟩ := m_sav7 131 0 2000 (os_sf σ 0 0) (by omega) (by omega)
  obtain ⟨n', c1, c2⟩ := c_copy k.2.2.1 a3 a1
  have f1 : ∀ i, i ≠ 0 → i ≠ 6 → (os_sf σ1 6 1).1 i = σ.1 i := fun i h0 h6 => (sf_k h6).trans ((congrFun m2 i).trans (sf_k h0))
  have hz1 : zG V 0 (σ1.2 1) := by rw [m3 1 (by decide)]; exact a2
  have hz3 : zG V 0 (σ1.2 3) := zG_mv a3 a2 (fun i hi => by rw [m4, if_pos (by omega)]; rfl)
  refine ⟨nI (sr (fun o => i1 (hv V.1.2.2.2.2 o = true)) 0 V.1.1), os_sf σ1 6 1, ?_, (k.1, (k.2.1, (n', (k.2.2.2.1, (k.2.2.2.2.1, (k.2.2.2.2.2.1, (k.2.2.2.2.2.2.1, os_sf k.2.2.2.2.2.2.2 6 1))))))), ?_, V, some V, Hs, ⟨w, a0, a1⟩, hz1, a3, by omega, ⟨sf_same, sf_same, ⟨w, a0, c2⟩, hz3, a3, by omega⟩, a6, hG_mv a7 (f1 5 (by decide) (by decide)) (m3 4 (by decide)), hW_le (by omega) a8, zX_mv a9 (f1 10 (by decide) (by decide)) (m3 7 (by decide)), zW_mv a10 (f1 11 (by decide) (by decide)) (m3 9 (by decide)), ?_, ?_⟩
  · unfold fX9_save
    rw [show (0 : Int32) = nI 0 from rfl] at *
    refine Eq.trans m1 ?_
    rw [gx_chk_t (Or.inr rfl), m_many (σ := os_sf σ1 6 1) a3.1 hz1.1, gx_b_some]
  · unfold fX8_save
    rw [c1, gx_b_some, gx_chk_t (Or.inr rfl), c_cserv a3.1 c2.1, gx_b_some]
  · show (os_sf k.2.2.2.2.2.2.2 6 1).1 7 = _
    rw [sf_k (by decide)]; exact a11.trans (f1 12 (by decide) (by decide)).symm
  · show (os_sf k.2.2.2.2.2.2.2 6 1).1 8 = _
    rw [sf_k (by decide)]; exact a12.trans (f1 13 (by decide) (by decide)).symm
theorem ag_restore (h : zR c k σ) : Ag_restore (zR (c + 60)) k σ := by
  have h0 := h
  obtain ⟨V, S, Hs, ⟨w, a0, a1⟩, a2, a3, a4, a5, a6, a7, a8, a9, a10, a11, a12⟩ := h
  have e6 : os_f (os_sf σ 0 0) 6 = σ.1 6 := sf_k (by decide)
  unfold Ag_restore fX9_restore fX8_restore xX8_restore
  rw [e6]
  cases S with
  | none =>
    obtain ⟨s1, s2⟩ := a5
    rw [if_pos s2, if_pos (show os_f k.2.2.2.2.2.2.2 6 = 0 from s1), if_pos (show os_f k.2.2.2.2.2.2.2 6 = 0 from s1)]
    exact ⟨_, _, rfl, Or.inr ⟨_, rfl, sf_same, zR_0 (by omega) (zR_0 (Nat.le_refl _) h0 0) 1⟩⟩
  | some U =>
    obtain ⟨s1, s2, ⟨w', s3, s4⟩, s5, s6, s7⟩ := a5
    obtain ⟨σ1, m1, m2, m3, m4⟩ := m_res20 131 0 2000 (os_sf σ 0 0) (by omega) (by omega)
    obtain ⟨n', c1, c2⟩ := c_copy k.1 s6 s4
    have f1 : ∀ i, i ≠ 0 → i ≠ 5 → (os_sf σ1 5 0).1 i = σ.1 i := fun i h0 h5 => (sf_k h5).trans ((congrFun m2 i).trans (sf_k h0))
    have hz1 : zG U 0 (σ1.2 1) := zG_mv s6 s5 (fun i hi => by rw [m4, if_pos (by omega)]; rfl)
    rw [if_neg (show ¬ σ.1 6 = 0 from by rw [s2]; decide), if_neg (show ¬ os_f k.2.2.2.2.2.2.2 6 = 0 from by rw [show os_f k.2.2.2.2.2.2.2 6 = 1 from s1]; decide), c1, gx_b_some]
    obtain ⟨h1, q, hq, h2, h3⟩ := a6
    refine ⟨nI (sr (fun o => i1 (hv U.1.2.2.2.2 o = true)) 0 U.1.1), os_sf σ1 5 0, ?_, Or.inl ⟨(n', (k.2.1, (k.2.2.1, (k.2.2.2.1, (k.2.2.2.2.1, (k.2.2.2.2.2.1, ((os_sf k.2.2.2.2.2.2.1.1 2 0, k.2.2.2.2.2.2.1.2), k.2.2.2.2.2.2.2))))))), ?_, ?_, U, some U, [], ⟨w', s3, c2⟩, hz1, s6, by omega, ⟨s1, (f1 6 (by decide) (by decide)).trans s2, ⟨w', s3, s4⟩, ?_, s6, by omega⟩, ⟨sf_same, q, hq, ?_, fun i U hi => by simp at hi⟩, ⟨sf_same, fun i U hi => by simp at hi⟩, ⟨Nat.zero_le _, fun U hU => by cases hU⟩, zX_mv a9 (f1 10 (by decide) (by decide)) (m3 7 (by decide)), zW_mv a10 (f1 11 (by decide) (by decide)) (m3 9 (by decide)), a11.trans (f1 12 (by decide) (by decide)).symm, a12.trans (f1 13 (by decide) (by decide)).symm⟩⟩
    · refine Eq.trans m1 ?_
      rw [m_many (σ := os_sf σ1 5 0) s6.1 hz1.1, gx_b_some]
    · show gx_b (fX1_clear k.2.2.2.2.2.2.1) _ = _
      unfold fX1_clear
      rw [gx_b_some, c_cserv s6.1 c2.1, gx_b_some]
    · show (os_sf σ1 5 0).1 0 = 0
      rw [sf_k (by decide), m2]
      exact sf_same
    · show zG U 0 (σ1.2 3)
      rw [m3 3 (by decide)]
      exact s5
    · show (os_sf k.2.2.2.2.2.2.1.1 2 0).1 1 = nI q
      rw [sf_k (by decide)]; exact h2
theorem ag_undo (h : zR c k σ) : Ag_undo (zR (c + 60)) k σ := by
  have h0 := h
  obtain ⟨V, S, Hs, ⟨w, a0, a1⟩, a2, a3, a4, a5, a6, a7, a8, a9, a10, a11, a12⟩ := h
  have e5 : os_f (os_sf σ 0 0) 5 = nI Hs.length := (sf_k (by decide)).trans a7.1
  obtain ⟨h1, q, hq, h2, h3⟩ := a6
  have hl := a8.1
  have e2 : os_f k.2.2.2.2.2.2.1.1 2 = nI Hs.length := h1
  have e1 : os_f k.2.2.2.2.2.2.1.1 1 = nI q := h2
  unfold Ag_undo fX9_undo fX8_undo xX8_undo fX1_takeLatest
  rw [e5, e2]
  by_cases cz : Hs.length = 0
  · rw [if_pos (show nI Hs.length = 0 from by rw [cz]; rfl), if_pos (show nI Hs.length = 0 from by rw [cz]; rfl), gx_b_some, gx_b_some, if_pos rfl]
    exact ⟨_, _, rfl, Or.inr ⟨_, rfl, sf_same, zR_0 (by omega) (zR_0 (Nat.le_refl _) h0 0) 1⟩⟩
  obtain ⟨U, hU⟩ := lt_get (K := Hs) (k := Hs.length - 1) (by omega)
  obtain ⟨u1, u2⟩ := a8.2 U (List.mem_of_getElem? hU)
  obtain ⟨w', u3, u4⟩ := h3 _ U hU
  rw [show (q + 9 + (Hs.length - 1) - Hs.length) % 8 = q by omega] at u4
  have nz : ¬ nI Hs.length = 0 := nI_ne0 (by omega) (by omega)
  have g8 : gx_in (nI q) 8 := nI_in (by omega) (by decide)
  have eq9 : (nI q).toNatClampNeg = q := nI_clamp (by omega)
  have ed : (((os_f k.2.2.2.2.2.2.1.1 1 + (8 : Int32)) - (1 : Int32)) - ((os_f k.2.2.2.2.2.2.1.1 1 + (8 : Int32)) - (1 : Int32)) / (8 : Int32) * (8 : Int32)) = nI ((q + 7) % 8) := by
    rw [e1]; exact n_dn8 q hq
  have ef : os_f (os_sf k.2.2.2.2.2.2.1.1 1 (nI ((q + 7) % 8))) 2 - (1 : Int32) = nI (Hs.length - 1) := by
    show (os_sf k.2.2.2.2.2.2.1.1 1 (nI ((q + 7) % 8))).1 2 - 1 = _
    rw [sf_k (by decide), h1]
    exact n_sub (a := Hs.length) (b := 1) (by omega)
  have em : nI Hs.length - (1 : Int32) = nI (Hs.length - 1) := n_sub (a := Hs.length) (b := 1) (by omega)
  obtain ⟨n', c1, c2⟩ := c_copy k.1 u1 u4
  obtain ⟨σ1, m1, m2, m3, m4⟩ := m_und30 (k := Hs.length - 1) (by omega) 131 0 2000 (os_sf (os_sf σ 0 0) 5 (nI (Hs.length - 1))) (by omega) (by omega) sf_same
  have f1 : ∀ i, i ≠ 0 → i ≠ 5 → σ1.1 i = σ.1 i := fun i h0 h5 => (congrFun m2 i).trans ((sf_k h5).trans (sf_k h0))
  have f5 : os_f σ1 5 = nI (Hs.length - 1) := (congrFun m2 5).trans sf_same
  have hz1 : zG U 0 (σ1.2 1) := zG_mv u1 (a7.2 _ U hU) (fun i hi => by rw [m4, if_pos (by omega)]; rfl)
  have hld : (Hs.take (Hs.length - 1)).length = Hs.length - 1 := by rw [List.length_take]; omega
  have hget : ∀ i X, (Hs.take (Hs.length - 1))[i]? = some X → i < Hs.length - 1 ∧ Hs[i]? = some X := fun i X hi => by
    have := get_lt hi
    rw [List.getElem?_take] at hi
    rw [if_pos (by omega)] at hi
    exact ⟨by omega, hi⟩
  rw [if_neg nz, if_neg nz, e1, gx_chk_t g8] 
  rw [e1] at ed
  rw [ed, ef, em, gx_b_some, gx_b_some, if_neg (n_m1 (by omega)), if_neg (n_m1 (by omega)), gx_chk_t g8, gx_chk_t g8, eq9, c1, gx_b_some, gx_b_some]
  refine ⟨nI (Hs.length - 1), σ1, ?_, Or.inl ⟨(n', (k.2.1, (k.2.2.1, (k.2.2.2.1, (k.2.2.2.2.1, (k.2.2.2.2.2.1, (hs_up (os_sf (os_sf k.2.2.2.2.2.2.1.1 1 (nI ((q + 7) % 8))) 2 (nI (Hs.length - 1)), k.2.2.2.2.2.2.1.2) q (k.2.2.2.2.2.2.1.2 q), k.2.2.2.2.2.2.2))))))), ?_, ?_, U, S, Hs.take (Hs.length - 1), ⟨w', u3, c2⟩, hz1, u1, by omega, zV_le (by omega) (zV_mv a5 (f1 6 (by decide) (by decide)) (m3 3 (by decide))), ⟨?_, (q + 7) % 8, by omega, ?_, fun i X hi => ?_⟩, ⟨?_, fun i X hi => ?_⟩, ⟨by omega, fun X hX => ?_⟩, zX_mv a9 (f1 10 (by decide) (by decide)) (m3 7 (by decide)), zW_mv a10 (f1 11 (by decide) (by decide)) (m3 9 (by decide)), a11.trans (f1 12 (by decide) (by decide)).symm, a12.trans (f1 13 (by decide) (by decide)).symm⟩⟩
  · refine Eq.trans m1 ?_
    rw [f5]
  · show some ((os_sf (os_sf k.2.2.2.2.2.2.1.1 1 (nI ((q + 7) % 8))) 2 (nI (Hs.length - 1))).1 2, _) = _
    rw [sf_same]
  · show σ1.1 0 = 0
    rw [m2, sf_k (by decide)]
    exact sf_same
  · show (os_sf (os_sf k.2.2.2.2.2.2.1.1 1 (nI ((q + 7) % 8))) 2 (nI (Hs.length - 1))).1 2 = nI (Hs.take (Hs.length - 1)).length
    rw [sf_same, hld]
  · show (os_sf (os_sf k.2.2.2.2.2.2.1.1 1 (nI ((q + 7) % 8))) 2 (nI (Hs.length - 1))).1 1 = _
    rw [sf_k (by decide), sf_same]
  · obtain ⟨i1', i2⟩ := hget i X hi
    obtain ⟨w9, v1, v2⟩ := h3 i X i2
    refine ⟨w9, v1, ?_⟩
    rw [hld, show ((q + 7) % 8 + 9 + i - (Hs.length - 1)) % 8 = (q + 9 + i - Hs.length) % 8 by omega]
    show zN X w9 (if (q + 9 + i - Hs.length) % 8 = q then k.2.2.2.2.2.2.1.2 q else k.2.2.2.2.2.2.1.2 ((q + 9 + i - Hs.length) % 8))
    rw [if_neg (by omega)]
    exact v2
  · show σ1.1 5 = _
    rw [hld]; exact f5
  · obtain ⟨i1', i2⟩ := hget i X hi
    rw [m3 4 (by decide)]
    exact a7.2 i X i2
  · obtain ⟨v1, v2⟩ := a8.2 X (List.mem_of_mem_take hX)
    exact ⟨v1, by omega⟩
end Undo
