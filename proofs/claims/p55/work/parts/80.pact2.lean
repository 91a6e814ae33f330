/-! dismiss, issue, passHours, define, erase -/
theorem dis_w (o : Nat) : ∀ (j : Nat) (K : List ON) (w w' : Nat), (dis o j (K, w)).1.1 = (dis o j (K, w')).1.1 ∧ (dis o j (K, w)).2 = (dis o j (K, w')).2 := by
  intro j
  induction j with
  | zero => intro K w w'; exact ⟨rfl, rfl⟩
  | succ j ih =>
    intro K w w'
    cases he : K[j]? with
    | none =>
      have e1 : ∀ w, dis o (j + 1) (K, w) = dis o j (K, w) := fun w => by simp only [dis, he]
      rw [e1, e1]
      exact ih K w w'
    | some e =>
      by_cases c : e.1 = o
      · have e1 : ∀ w, dis o (j + 1) (K, w) = ((dis o j (del1 j (K, w))).1, (dis o j (del1 j (K, w))).2 + 1) := fun w => by simp only [dis, he, if_pos c]
        rw [e1, e1]
        obtain ⟨h1, h2⟩ := ih (K.eraseIdx j) (del1 j (K, w)).2 (del1 j (K, w')).2
        exact ⟨h1, congrArg (· + 1) h2⟩
      · have e1 : ∀ w, dis o (j + 1) (K, w) = dis o j (K, w) := fun w => by simp only [dis, he, if_neg c]
        rw [e1, e1]
        exact ih K w w'
theorem dis_0 (o : Nat) : ∀ (j : Nat) (K : List ON), (dis o j (K, 0)).1.2 = 0 := by
  intro j
  induction j with
  | zero => intro K; rfl
  | succ j ih =>
    intro K
    cases he : K[j]? with
    | none =>
      have e1 : dis o (j + 1) (K, 0) = dis o j (K, 0) := by simp only [dis, he]
      rw [e1]; exact ih K
    | some e =>
      by_cases c : e.1 = o
      · have e2 : del1 j (K, 0) = (K.eraseIdx j, 0) := by simp [del1]
        have e1 : dis o (j + 1) (K, 0) = ((dis o j (K.eraseIdx j, 0)).1, (dis o j (K.eraseIdx j, 0)).2 + 1) := by simp only [dis, he, if_pos c, e2]
        rw [e1]; exact ih (K.eraseIdx j)
      · have e1 : dis o (j + 1) (K, 0) = dis o j (K, 0) := by simp only [dis, he, if_neg c]
        rw [e1]; exact ih K
theorem lvs_w (o : Nat) (V : AN) (w : Nat) : (lvs o V w).1 = (lvs o V 0).1 := by
  obtain ⟨h1, h2⟩ := dis_w o V.2.1.length V.2.1 w 0
  unfold lvs
  simp only [h1, h2]
section Acts2
variable {V : AN} {w : Nat} {τ : NS} {σ : OS}
theorem a_fire (hw : wO V w) (hc : zN V w τ) (hm : zG V 0 (σ.2 1)) (p1 : Int32) : Act V [(1, -1), (2, -2)] τ σ (fX2_fire τ p1) (fX9_fires σ p1) (PoFire V p1) := by
  have hw0 := hw
  have hc0 := hc
  have hm0 := hm
  obtain ⟨hT, hL, hF, hK, hwK, hE, hB⟩ := hw
  have hA := hT.2.1
  obtain ⟨g1, g2, g3, g4, g5, g6, g7⟩ := hc
  obtain ⟨m1, m2, m3, m4, m5, m6, m7⟩ := hm
  unfold Act fX2_fire fX9_fires
  rcases off_P (P := V.1.2.2.2.2) p1 with ⟨o, rfl, ho⟩ | hn
  rotate_left
  · rw [c_serves_f hT g1 hn, gx_b_some, if_pos rfl, m_is_f hT m1 hn, gx_b_some, if_pos rfl]
    exact Or.inl ⟨(1, -1), by simp, rfl, rfl⟩
  have hoA := hv_lt hT ho
  rw [c_serves_t hT g1 ho, gx_b_some, if_neg one0, m_is_t hT m1 ho, gx_b_some, if_neg one0]
  by_cases c0 : o = 0
  · rw [if_pos (show nI o = (0 : Int32) from by rw [c0]; rfl), if_pos (show nI o = (0 : Int32) from by rw [c0]; rfl)]
    exact Or.inl ⟨(2, -2), by simp, rfl, rfl⟩
  have n0 : ¬ nI o = (0 : Int32) := fun q => c0 ((nI_eq (b := 0) (by omega) (by decide)).mp q)
  obtain ⟨τ', t1, t2⟩ := c_leave hw0 ho c0 hc0
  obtain ⟨σ', s1, s2, s3⟩ := m_leave (wO_0 hw0) ho c0 hm0
  obtain ⟨l1, l2, l3⟩ := lvs_wO hw0 ho c0
  have hcnt : sr (fun q => i1 (V.1.2.2.2.2 q = some o)) 0 V.1.1 ≤ 1 * V.1.1 := by
    have := sr_le (f := fun q => i1 (V.1.2.2.2.2 q = some o)) (g := fun _ => 1) V.1.1 0 (fun j _ _ => by simp only [i1]; split <;> omega)
    rw [sr_k] at this
    exact this
  rw [if_neg n0, if_neg n0, c_csub hT g1 (by omega), gx_b_some, t1, gx_b_some, s1, gx_b_some]
  rw [lvs_w] at t2 l1 l3
  have e2 : (lvs o V 0).2 = 0 := dis_0 o _ _
  rw [e2] at s3
  exact Or.inr ⟨(lvs o V 0).1, (lvs o V w).2, τ', os_sf σ' 14 (nI (sr (fun q => i1 (V.1.2.2.2.2 q = some o)) 0 V.1.1)), _, rfl, rfl, by omega, l1.2.2.2.2.1, t2, s3, wO_0 l1, by omega, frm_14 s2, sf_same, o, rfl, ho, c0, rfl, rfl⟩
theorem a_send (hw : wO V w) (hc : zN V w τ) (hm : zG V 0 (σ.2 1)) (p1 p2 p3 : Int32) : Act V [(1, -1), (2, -2), (3, -3), (4, -4)] τ σ (fX2_giveOrder τ p1 p2 p3) (fX9_sends σ p1 p2 p3) (PoSend V p1 p2) := by
  obtain ⟨hT, hL, hF, hK, hwK, hE, hB⟩ := hw
  have hA := hT.2.1
  obtain ⟨g1, g2, g3, g4, g5, g6, g7⟩ := hc
  obtain ⟨m1, m2, m3, m4, m5, m6, m7⟩ := hm
  unfold Act fX2_giveOrder fX9_sends
  rcases off_P (P := V.1.2.2.2.2) p1 with ⟨o, rfl, ho⟩ | hn
  rotate_left
  · rw [c_serves_f hT g1 hn, gx_b_some, if_pos rfl, m_is_f hT m1 hn, gx_b_some, if_pos rfl]
    exact Or.inl ⟨(1, -1), by simp, rfl, rfl⟩
  rw [c_serves_t hT g1 ho, gx_b_some, if_neg one0, m_is_t hT m1 ho, gx_b_some, if_neg one0]
  rcases off_P (P := V.1.2.2.2.2) p2 with ⟨s, rfl, hs⟩ | hn
  rotate_left
  · rw [c_serves_f hT g1 hn, gx_b_some, if_pos rfl, m_is_f hT m1 hn, gx_b_some, if_pos rfl]
    exact Or.inl ⟨(1, -1), by simp, rfl, rfl⟩
  have hoA := hv_lt hT ho
  have hsA := hv_lt hT hs
  rw [c_serves_t hT g1 hs, gx_b_some, if_neg one0, m_is_t hT m1 hs, gx_b_some, if_neg one0]
  rcases rng p3 (b := 0) (c := 100) (by decide) (by decide) with ⟨v, v1, v2, rfl⟩ | ⟨hx, hy⟩
  rotate_left
  · have e3 : fX9_in p3 (0 : Int32) (100 : Int32) = some 0 := m_in_f (b := 0) (c := 100) (by decide) (by decide) hx
    rw [e3, gx_b_some, if_pos rfl]
    refine Or.inl ⟨(2, -2), by simp, ?_, rfl⟩
    rcases hy with hy | ⟨hy, hz⟩
    · rw [if_pos (show p3 < 0 from hy)]
    · rw [if_neg (show ¬ p3 < 0 from hy), if_neg (show ¬ p3 ≤ 100 from hz)]
  have e3 : fX9_in (nI v) (0 : Int32) (100 : Int32) = some 1 := m_in_t (b := 0) (c := 100) v1 v2 (by decide)
  rw [e3, gx_b_some, if_neg one0, if_neg (nI_pos (by omega)), if_pos (show nI v ≤ (100 : Int32) from (nI_leI (b := 100) (by omega) (by decide)).mpr v2), c_over hT g1 (by omega) hsA, gx_b_some, m_above hT m1 (by omega) hsA, gx_b_some]
  by_cases c2 : o ∈ ch V.1.2.2.2.2 s
  rotate_left
  · rw [ab_f c2, if_pos rfl, if_pos rfl]
    exact Or.inl ⟨(3, -3), by simp, rfl, rfl⟩
  have e5 : os_a σ 1 (5 : Int32).toNatClampNeg = nI V.2.1.length := by rw [tc5]; exact m2.1
  rw [ab_t c2, if_neg one0, if_neg one0, gx_chk_t gi5]
  simp only [e5, show os_f τ.2.2.1 3 = nI V.2.1.length from g2.1]
  by_cases c6 : V.2.1.length = 6
  · rw [if_neg (show ¬ nI V.2.1.length < (6 : Int32) from nI_nlt (a := V.2.1.length) (b := 6) (by omega) (by omega)), if_pos (show nI V.2.1.length = (6 : Int32) from by rw [c6]; rfl)]
    exact Or.inl ⟨(4, -4), by simp, rfl, rfl⟩
  have eo : ∀ c, ((67 : Int32) + (4 : Int32) * nI V.2.1.length) + nI c = nI (67 + 4 * V.2.1.length + c) := fun c => by
    show (nI 67 + nI 4 * nI V.2.1.length) + nI c = _
    rw [n_mul, nI_add, nI_add]
  have x0 : ((67 : Int32) + (4 : Int32) * nI V.2.1.length) + (0 : Int32) = nI (67 + 4 * V.2.1.length + 0) := eo 0
  have x1 : ((67 : Int32) + (4 : Int32) * nI V.2.1.length) + (1 : Int32) = nI (67 + 4 * V.2.1.length + 1) := eo 1
  have x2 : ((67 : Int32) + (4 : Int32) * nI V.2.1.length) + (2 : Int32) = nI (67 + 4 * V.2.1.length + 2) := eo 2
  have x3 : ((67 : Int32) + (4 : Int32) * nI V.2.1.length) + (3 : Int32) = nI (67 + 4 * V.2.1.length + 3) := eo 3
  have y0 : gx_in (nI (67 + 4 * V.2.1.length + 0)) 131 := nI_in (by omega) (by decide)
  have y1 : gx_in (nI (67 + 4 * V.2.1.length + 1)) 131 := nI_in (by omega) (by decide)
  have y2 : gx_in (nI (67 + 4 * V.2.1.length + 2)) 131 := nI_in (by omega) (by decide)
  have y3 : gx_in (nI (67 + 4 * V.2.1.length + 3)) 131 := nI_in (by omega) (by decide)
  have z0 : (nI (67 + 4 * V.2.1.length + 0)).toNatClampNeg = 67 + 4 * V.2.1.length + 0 := nI_clamp (by omega)
  have z1 : (nI (67 + 4 * V.2.1.length + 1)).toNatClampNeg = 67 + 4 * V.2.1.length + 1 := nI_clamp (by omega)
  have z2 : (nI (67 + 4 * V.2.1.length + 2)).toNatClampNeg = 67 + 4 * V.2.1.length + 2 := nI_clamp (by omega)
  have z3 : (nI (67 + 4 * V.2.1.length + 3)).toNatClampNeg = 67 + 4 * V.2.1.length + 3 := nI_clamp (by omega)
  have gK : gx_in (nI V.2.1.length) 6 := nI_in (by omega) (by decide)
  have eK : (nI V.2.1.length).toNatClampNeg = V.2.1.length := nI_clamp (by omega)
  rw [if_pos (show nI V.2.1.length < (6 : Int32) from (nI_ltI (b := 6) (by omega) (by decide)).mpr (by omega)), if_neg (show ¬ nI V.2.1.length = (6 : Int32) from fun q => c6 ((nI_eq (b := 6) (by omega) (by decide)).mp q))]
  simp only [x0, x1, x2, x3, gx_chk_t y0, gx_chk_t y1, gx_chk_t y2, gx_chk_t y3, gx_chk_t gi5, z0, z1, z2, z3, tc5]
  have hlen : (V.2.1 ++ [(o, s, v)]).length = V.2.1.length + 1 := by simp
  have hget : ∀ k e, (V.2.1 ++ [(o, s, v)])[k]? = some e → (k < V.2.1.length ∧ V.2.1[k]? = some e) ∨ (k = V.2.1.length ∧ e = (o, s, v)) := fun k e he => by
    by_cases c : k < V.2.1.length
    · rw [List.getElem?_append_left c] at he
      exact Or.inl ⟨c, he⟩
    · have := get_lt he
      have hk : k = V.2.1.length := by omega
      rw [hk, List.getElem?_append_right (Nat.le_refl _), Nat.sub_self] at he
      exact Or.inr ⟨hk, (Option.some.inj he).symm⟩
  refine Or.inr ⟨(V.1, V.2.1 ++ [(o, s, v)], V.2.2), w, (τ.1, τ.2.1, os_sf (os_sa (os_sa (os_sa τ.2.2.1 0 V.2.1.length (nI o)) 1 V.2.1.length (nI s)) 2 V.2.1.length (nI v)) 3 (nI (V.2.1.length + 1)), τ.2.2.2), os_sf (os_sa (os_sa (os_sa (os_sa (os_sa σ 1 (67 + 4 * V.2.1.length + 0) (nI o)) 1 (67 + 4 * V.2.1.length + 1) (nI s)) 1 (67 + 4 * V.2.1.length + 2) (nI v)) 1 (67 + 4 * V.2.1.length + 3) 0) 1 5 (nI (V.2.1.length + 1))) 14 (nI V.2.1.length), V.2.1.length, ?_, ?_, by omega, ?_, ⟨g1, ⟨?_, ?_, fun k e he => ?_⟩, g3, g4, g5, g6, g7⟩, ?_, ?_, ?_, frm_14 (fr1_tr fr1_sa (fr1_tr fr1_sa (fr1_tr fr1_sa (fr1_tr fr1_sa fr1_sa)))), sf_same, o, s, v, rfl, rfl, ho, hs, c2, v2, rfl, rfl⟩
  · unfold fX4_add
    simp only [show os_f τ.2.2.1 3 = nI V.2.1.length from g2.1, gx_chk_t gK, eK, gx_b_some]
    have e6 : os_f (os_sa (os_sa (os_sa τ.2.2.1 0 V.2.1.length (nI o)) 1 V.2.1.length (nI s)) 2 V.2.1.length (nI v)) 3 + 1 = nI (V.2.1.length + 1) := by
      show τ.2.2.1.1 3 + 1 = _
      rw [g2.1, nI_1]
    rw [e6]
  · rw [nI_1]
    rfl
  · show w ≤ (V.2.1 ++ [(o, s, v)]).length
    omega
  · show (os_sf _ 3 (nI (V.2.1.length + 1))).1 3 = nI (V.2.1 ++ [(o, s, v)]).length
    rw [sf_same, hlen]
  · show (os_sf _ 3 (nI (V.2.1.length + 1))).1 4 = nI w
    rw [sf_k (by decide)]
    exact g2.2.1
  · show (os_sa (os_sa (os_sa τ.2.2.1 0 V.2.1.length (nI o)) 1 V.2.1.length (nI s)) 2 V.2.1.length (nI v)).2 0 k = _ ∧ (os_sa (os_sa (os_sa τ.2.2.1 0 V.2.1.length (nI o)) 1 V.2.1.length (nI s)) 2 V.2.1.length (nI v)).2 1 k = _ ∧ (os_sa (os_sa (os_sa τ.2.2.1 0 V.2.1.length (nI o)) 1 V.2.1.length (nI s)) 2 V.2.1.length (nI v)).2 2 k = _
    rcases hget k e he with ⟨h1, h2⟩ | ⟨rfl, rfl⟩
    · obtain ⟨r1, r2, r3⟩ := g2.2.2 k e h2
      rw [sa_i (show k ≠ V.2.1.length by omega), sa_j (q := 1) (by decide), sa_i (j := 1) (show k ≠ V.2.1.length by omega), sa_j (q := 1) (by decide), sa_j (q := 0) (by decide), sa_j (q := 0) (by decide), sa_i (j := 0) (show k ≠ V.2.1.length by omega), sa_j (q := 2) (by decide), sa_j (q := 2) (by decide)]
      exact ⟨r1, r2, r3⟩
    · rw [sa_same, sa_j (q := 1) (by decide), sa_same, sa_j (q := 0) (by decide), sa_j (q := 0) (by decide), sa_same]
      exact ⟨rfl, rfl, rfl⟩
  · rw [sf_a]
    have q9 : ∀ i, i ≠ 5 → ¬ (67 + 4 * V.2.1.length ≤ i ∧ i < 67 + 4 * V.2.1.length + 4) → (os_sa (os_sa (os_sa (os_sa (os_sa σ 1 (67 + 4 * V.2.1.length + 0) (nI o)) 1 (67 + 4 * V.2.1.length + 1) (nI s)) 1 (67 + 4 * V.2.1.length + 2) (nI v)) 1 (67 + 4 * V.2.1.length + 3) 0) 1 5 (nI (V.2.1.length + 1))).2 1 i = σ.2 1 i := fun i h1 h2 => by
      rw [sa_i h1, sa_i (by omega), sa_i (by omega), sa_i (by omega), sa_i (by omega)]
    refine ⟨zM_mv hA m1 (fun i hi => q9 i (by omega) (by omega)), ⟨?_, fun k e he => ?_⟩, zB_mv hB.1 m3 (fun i hi => q9 i (by omega) (by omega)), (q9 1 (by omega) (by omega)).trans m4, (q9 2 (by omega) (by omega)).trans m5, (q9 3 (by omega) (by omega)).trans m6, (q9 4 (by omega) (by omega)).trans m7⟩
    · show _ = nI (V.2.1 ++ [(o, s, v)]).length
      rw [sa_same, hlen]
    · rcases hget k e he with ⟨h1, h2⟩ | ⟨rfl, rfl⟩
      · obtain ⟨r1, r2, r3, r4⟩ := m2.2 k e h2
        exact ⟨(q9 _ (by omega) (by omega)).trans r1, (q9 _ (by omega) (by omega)).trans r2, (q9 _ (by omega) (by omega)).trans r3, (q9 _ (by omega) (by omega)).trans r4⟩
      · refine ⟨?_, ?_, ?_, ?_⟩
        · rw [sa_i (by omega), sa_i (by omega), sa_i (by omega), sa_i (by omega), sa_same]
        · rw [sa_i (by omega), sa_i (by omega), sa_i (by omega), sa_same]
        · rw [sa_i (by omega), sa_i (by omega), sa_same]
        · rw [sa_i (by omega), sa_same, if_neg (by omega)]
  · refine ⟨hT, hL, hF, ?_, Nat.zero_le _, fun e he => ?_, hB⟩
    · show (V.2.1 ++ [(o, s, v)]).length ≤ 6
      omega
    · rcases List.mem_append.mp he with h | h
      · exact hE e h
      · rw [List.mem_singleton] at h
        rw [h]
        exact ⟨ho, hsA, v2⟩
  · show V.2.2.2.2.1 + V.2.2.2.2.2.1 + V.2.2.2.2.2.2 + (V.2.1 ++ [(o, s, v)]).length ≤ V.2.2.2.2.1 + V.2.2.2.2.2.1 + V.2.2.2.2.2.2 + V.2.1.length + 1
    omega
theorem a_pass (hw : wO V w) (hc : zN V w τ) (hm : zG V 0 (σ.2 1)) (hb : tot V < 2 ^ 31) (p1 : Int32) : Act V [(1, -2)] τ σ (fX2_letHoursPass τ p1) (fX9_passes σ p1) (PoPass V p1) := by
  unfold Act fX2_letHoursPass fX9_passes
  rcases rng p1 (b := 1) (c := 24) (by decide) (by decide) with ⟨h, h1, h2, rfl⟩ | ⟨hx, hy⟩
  rotate_left
  · have e3 : fX9_in p1 (1 : Int32) (24 : Int32) = some 0 := m_in_f (b := 1) (c := 24) (by decide) (by decide) hx
    rw [e3, gx_b_some, if_pos rfl]
    refine Or.inl ⟨(1, -2), by simp, ?_, rfl⟩
    rcases hy with hy | ⟨hy, hz⟩
    · rw [if_pos (show p1 < 1 from hy)]
    · rw [if_neg (show ¬ p1 < 1 from hy), if_neg (show ¬ p1 ≤ 24 from hz)]
  have e3 : fX9_in (nI h) (1 : Int32) (24 : Int32) = some 1 := m_in_t (b := 1) (c := 24) h1 h2 (by decide)
  have e2 : os_a σ 1 (2 : Int32).toNatClampNeg = nI V.2.2.2.2.1 := by rw [tc2]; exact hm.2.2.2.2.1
  obtain ⟨τ', w', t1, t2, t3⟩ := c_hours h (nI V.2.2.2.2.1) (by omega) h 0 2000 V w τ (by omega) (by omega) hw hc
  obtain ⟨σ', s1, s2, s3, s4⟩ := m_pass21 h (nI V.2.2.2.2.1) (by omega) h 0 2000 V σ (by omega) (by omega) (wO_0 hw) hm
  obtain ⟨k1, k2, k3⟩ := hours_wO h V w hw
  rw [n_sub k3] at t1 s3
  have ht : tot (hours h V) < 2 ^ 31 := by rw [k2]; exact hb
  unfold tot at ht
  rw [e3, gx_b_some, if_neg one0, if_neg (show ¬ nI h < (1 : Int32) from nI_nlt (a := h) (b := 1) h1 (by omega)), if_pos (show nI h ≤ (24 : Int32) from (nI_leI (b := 24) (by omega) (by decide)).mpr h2), gx_chk_t gi2, e2, show os_f τ.1 4 = nI V.2.2.2.2.1 from hc.2.2.2.2.1]
  exact Or.inr ⟨hours h V, w', τ', σ', _, t1, s1, by omega, t2, t3, s4, k1, by omega, s2, s3, h, h1, h2, rfl, rfl, rfl, k3⟩
/-! the book -/
def bk (τ : NS) (b : Option (Int32 × OS)) : Option (Int32 × NS) := gx_b b (fun r => some (r.1, (τ.1, τ.2.1, τ.2.2.1, r.2)))
theorem zG_B {V : AN} {σ' : OS} {B : List (Nat × Nat)} (hA : V.1.1 ≤ 12) (hK : V.2.1.length ≤ 6) (hm : zG V 0 (σ.2 1)) (hB : zB B (σ'.2 1)) (q : ∀ i, i < 91 → i ≠ 6 → σ'.2 1 i = σ.2 1 i) : zG (V.1, V.2.1, B, V.2.2.2) 0 (σ'.2 1) := by
  obtain ⟨m1, m2, m3, m4, m5, m6, m7⟩ := hm
  exact ⟨zM_mv hA m1 (fun i hi => q i (by omega) (by omega)), zS_mv hK m2 (fun i hi => q i (by omega) (by omega)), hB, (q 1 (by omega) (by omega)).trans m4, (q 2 (by omega) (by omega)).trans m5, (q 3 (by omega) (by omega)).trans m6, (q 4 (by omega) (by omega)).trans m7⟩
theorem zB_set {B : List (Nat × Nat)} {k : Nat} {e : Nat × Nat} (h : zB B (σ.2 1)) (hk : k < B.length) (hB : B.length ≤ 20) : zB (B.set k e) ((os_sa (os_sa σ 1 (91 + 2 * k) (nI e.1)) 1 (91 + 2 * k + 1) (nI e.2)).2 1) := by
  refine ⟨by rw [sa_i (by omega), sa_i (by omega), List.length_set]; exact h.1, fun i x hx => ?_⟩
  by_cases c : i = k
  · subst c
    rw [List.getElem?_set_self hk] at hx
    cases hx
    rw [sa_i (by omega), sa_same, sa_same]
    exact ⟨rfl, rfl⟩
  · rw [List.getElem?_set_ne (fun q => c q.symm)] at hx
    rw [sa_i (by omega), sa_i (by omega), sa_i (by omega), sa_i (by omega)]
    exact h.2 i x hx
theorem a_sign (hw : wO V w) (hc : zN V w τ) (hm : zG V 0 (σ.2 1)) (p1 p2 p3 : Int32) : Act V [(1, -2), (2, -3)] τ σ (bk τ (fX0_assign τ.2.2.2 p1 p2 p3)) (fX9_signs σ p1 p2 p3) (PoBook V) := by
  have hm0 := hm
  obtain ⟨hT, hL, hF, hK, hwK, hE, hB⟩ := hw
  obtain ⟨g1, g2, ⟨C, hp, gl, ga⟩, g4, g5, g6, g7⟩ := hc
  have m3 := hm.2.2.1
  have hB20 := hB.1
  have hlen := hp.length_eq
  unfold Act fX0_assign fX9_signs
  by_cases hs : isL p1 ∧ isL p2
  rotate_left
  · rw [isS_f hs, gx_b_some, if_pos rfl]
    refine Or.inl ⟨(1, -2), by simp, ?_, rfl⟩
    by_cases h1 : isL p1
    · rw [isL_t h1, gx_b_some, if_neg one0, isL_f (fun q => hs ⟨h1, q⟩), gx_b_some, if_pos rfl]; rfl
    · rw [isL_f h1, gx_b_some, if_pos rfl]; rfl
  rw [isS_t hs.1 hs.2, gx_b_some, if_neg one0, isL_t hs.1, gx_b_some, if_neg one0, isL_t hs.2, gx_b_some, if_neg one0]
  obtain ⟨⟨a, a1, a2, rfl⟩, ⟨b, b1', b2, rfl⟩⟩ := hs
  rcases rng p3 (b := 0) (c := 99) (by decide) (by decide) with ⟨x, x1, x2, rfl⟩ | ⟨hx, hy⟩
  rotate_left
  · have e3 : fX9_in p3 (0 : Int32) (99 : Int32) = some 0 := m_in_f (b := 0) (c := 99) (by decide) (by decide) hx
    rw [e3, gx_b_some, if_pos rfl]
    refine Or.inl ⟨(1, -2), by simp, ?_, rfl⟩
    rcases hy with hy | ⟨hy, hz⟩
    · rw [if_pos (show p3 < 0 from hy)]; rfl
    · rw [if_neg (show ¬ p3 < 0 from hy), if_neg (show ¬ p3 ≤ 99 from hz)]; rfl
  have e3 : fX9_in (nI x) (0 : Int32) (99 : Int32) = some 1 := m_in_t (b := 0) (c := 99) x1 x2 (by decide)
  have ek : (26 : Int32) * nI a + nI b = nI (26 * a + b) := by rw [show (26 : Int32) = nI 26 from rfl, n_mul, nI_add]
  have e6 : os_a σ 1 (6 : Int32).toNatClampNeg = nI V.2.2.1.length := by rw [tc6]; exact m3.1
  have s74 : ∀ (σ : OS) (k : Nat), k < 20 → fX9_signs_74 σ (nI a) (nI b) (nI x) (nI k) = some (0, os_sf (os_sa (os_sa σ 1 (91 + 2 * k) (nI (26 * a + b))) 1 (91 + 2 * k + 1) (nI x)) 14 (σ.2 1 6)) := fun σ k hk => by
    have e1 : nI (91 + 2 * k) + (1 : Int32) = nI (91 + 2 * k + 1) := nI_1 _
    unfold fX9_signs_74
    rw [n_off2, e1, gx_chk_t (nI_in (by omega) (by decide)), gx_chk_t (nI_in (by omega) (by decide)), gx_chk_t gi6, nI_clamp (by omega), nI_clamp (by omega), tc6, ek]
    show gx_b (fX9_done _ ((os_sa (os_sa σ 1 (91 + 2 * k) (nI (26 * a + b))) 1 (91 + 2 * k + 1) (nI x)).2 1 6)) _ = _
    rw [sa_i (by omega), sa_i (by omega)]
    rfl
  rw [e3, gx_b_some, if_neg one0, if_neg (nI_pos (by omega)), if_pos (show nI x ≤ (99 : Int32) from (nI_leI (b := 99) (by omega) (by decide)).mpr x2)]
  rcases both_find (τ := τ.2.2.2) hB m3 hp gl ga a1 a2 b1' b2 with ⟨k, j, e, q1, q2, q3, q4, q5⟩ | ⟨q1, q2, q3⟩
  · have hk := get_lt q1
    have hj := get_lt q2
    have hw9 := wB_set hB q2 x2
    have hpp : (C.set k (e.1, x)).Perm (V.2.2.1.set j (e.1, x)) := by
      have h1 := (pm_erase C k e q1).symm.trans (hp.trans (pm_erase V.2.2.1 j e q2))
      exact (pm_set C k _ hk).trans ((h1.cons_inv.cons _).trans (pm_set V.2.2.1 j _ hj).symm)
    rw [q4, gx_b_some, if_neg (n_m1 (by omega)), q5, gx_b_some, if_neg (n_m1 (by omega))]
    unfold fX0_assign_81 fX9_signs_48
    rw [gx_chk_t (nI_in (by omega) (by decide)), if_neg (n_m1 (by omega)), s74 σ j (by omega), nI_clamp (by omega)]
    refine Or.inr ⟨(V.1, V.2.1, V.2.2.1.set j (e.1, x), V.2.2.2), w, (τ.1, τ.2.1, τ.2.2.1, os_sa τ.2.2.2 1 k (nI x)), _, V.2.2.1.length, ?_, rfl, by omega, hwK, ⟨g1, g2, ⟨C.set k (e.1, x), hpp, ?_, fun i y hy => ?_⟩, g4, g5, g6, g7⟩, zG_B hT.2.1 hK hm0 ?_ (fun i hi h6 => ?_), ⟨hT, hL, hF, hK, Nat.zero_le _, hE, hw9⟩, Nat.le_succ _, frm_14 (fr1_tr fr1_sa fr1_sa), ?_, _, rfl⟩
    · show some (τ.2.2.2.1 2, _) = _
      rw [gl, hlen]
    · show τ.2.2.2.1 2 = _
      rw [List.length_set]; exact gl
    · show (os_sa τ.2.2.2 1 k (nI x)).2 0 i = _ ∧ (os_sa τ.2.2.2 1 k (nI x)).2 1 i = _
      rw [sa_j (q := 0) (by decide)]
      by_cases c : i = k
      · subst c
        rw [List.getElem?_set_self hk] at hy
        cases hy
        exact ⟨(ga i e q1).1, sa_same⟩
      · rw [List.getElem?_set_ne (fun q => c q.symm)] at hy
        rw [sa_i c]
        exact ga i y hy
    · rw [sf_a, ← q3]
      exact zB_set (e := (e.1, x)) m3 hj hB.1
    · rw [sf_a, sa_i (by omega), sa_i (by omega)]
    · rw [sf_same]; exact m3.1
  · rw [q2, gx_b_some, if_pos rfl, q3, gx_b_some, if_pos rfl, gx_chk_t gi6]
    simp only [e6, show os_f τ.2.2.2 2 = nI C.length from gl]
    by_cases c20 : V.2.2.1.length = 20
    · rw [if_neg (show ¬ nI C.length < (20 : Int32) from nI_nlt (a := C.length) (b := 20) (by omega) (by omega)), if_pos (show nI V.2.2.1.length = (20 : Int32) from by rw [c20]; rfl)]
      exact Or.inl ⟨(2, -3), by simp, rfl, rfl⟩
    have hw9 := wB_add hB (by omega) (x := 26 * a + b) (m := x) (by omega) (by omega) x2 q1
    have hpp : (C ++ [(26 * a + b, x)]).Perm (V.2.2.1 ++ [(26 * a + b, x)]) := hp.append (List.Perm.refl _)
    have eC : (nI C.length).toNatClampNeg = C.length := nI_clamp (by omega)
    rw [if_pos (show nI C.length < (20 : Int32) from (nI_ltI (b := 20) (by omega) (by decide)).mpr (by omega)), if_neg (show ¬ nI V.2.2.1.length = (20 : Int32) from fun q => c20 ((nI_eq (b := 20) (by omega) (by decide)).mp q)), c_num a1 a2 b1' b2, gx_b_some, gx_chk_t (nI_in (by omega) (by decide)), eC]
    unfold fX0_assign_81 fX9_signs_48
    rw [gx_chk_t (nI_in (by omega) (by decide)), eC, if_pos rfl, gx_chk_t gi6, gx_chk_t gi6, gx_chk_t gi6, e6, nI_1, tc6, s74 _ _ (by omega)]
    refine Or.inr ⟨(V.1, V.2.1, V.2.2.1 ++ [(26 * a + b, x)], V.2.2.2), w, (τ.1, τ.2.1, τ.2.2.1, os_sa (os_sf (os_sa τ.2.2.2 0 C.length (nI (26 * a + b - 2619))) 2 (nI (C.length + 1))) 1 C.length (nI x)), _, V.2.2.1.length + 1, ?_, rfl, by omega, hwK, ⟨g1, g2, ⟨C ++ [(26 * a + b, x)], hpp, ?_, fun i y hy => ?_⟩, g4, g5, g6, g7⟩, zG_B hT.2.1 hK hm0 ?_ (fun i hi h6 => ?_), ⟨hT, hL, hF, hK, Nat.zero_le _, hE, hw9⟩, Nat.le_succ _, frm_14 (fr1_tr fr1_sa (fr1_tr fr1_sa fr1_sa)), ?_, _, rfl⟩
    · have e9 : os_f (os_sa τ.2.2.2 0 C.length (nI (26 * a + b - 2619))) 2 + 1 = nI (C.length + 1) := by
        show τ.2.2.2.1 2 + 1 = _
        rw [gl, nI_1]
      rw [e9]
      show some ((os_sf (os_sa τ.2.2.2 0 C.length (nI (26 * a + b - 2619))) 2 (nI (C.length + 1))).1 2, _) = _
      rw [sf_same, hlen]
    · show (os_sf (os_sa τ.2.2.2 0 C.length (nI (26 * a + b - 2619))) 2 (nI (C.length + 1))).1 2 = _
      rw [sf_same]
      simp
    · show (os_sa (os_sa τ.2.2.2 0 C.length (nI (26 * a + b - 2619))) 1 C.length (nI x)).2 0 i = _ ∧ (os_sa (os_sa τ.2.2.2 0 C.length (nI (26 * a + b - 2619))) 1 C.length (nI x)).2 1 i = _
      by_cases c : i < C.length
      · rw [List.getElem?_append_left c] at hy
        rw [sa_j (q := 0) (by decide), sa_i (j := 0) (by omega), sa_i (j := 1) (by omega), sa_j (q := 1) (by decide)]
        exact ga i y hy
      · have h9 := get_lt hy
        have hi : i = C.length := by
          simp at h9
          omega
        rw [hi, List.getElem?_append_right (Nat.le_refl _), Nat.sub_self] at hy
        cases hy
        rw [hi, sa_j (q := 0) (by decide), sa_same, sa_same]
        exact ⟨rfl, rfl⟩
    · rw [sf_a]
      refine ⟨?_, fun i y hy => ?_⟩
      · rw [sa_i (by omega), sa_i (by omega), sa_same]
        simp
      · by_cases c : i < V.2.2.1.length
        · rw [List.getElem?_append_left c] at hy
          rw [sa_i (by omega), sa_i (by omega), sa_i (by omega), sa_i (by omega), sa_i (by omega), sa_i (by omega)]
          exact m3.2 i y hy
        · have h9 := get_lt hy
          have hi : i = V.2.2.1.length := by
            simp at h9
            omega
          rw [hi, List.getElem?_append_right (Nat.le_refl _), Nat.sub_self] at hy
          cases hy
          rw [hi, sa_i (by omega), sa_same, sa_same]
          exact ⟨rfl, rfl⟩
    · rw [sf_a, sa_i (by omega), sa_i (by omega), sa_i h6]
    · rw [sf_same]; exact sa_same
theorem a_unsign (hw : wO V w) (hc : zN V w τ) (hm : zG V 0 (σ.2 1)) (p1 p2 : Int32) : Act V [(1, -2), (2, -5)] τ σ (bk τ (fX0_remove τ.2.2.2 p1 p2)) (fX9_unsigns σ p1 p2) (PoBook V) := by
  have hm0 := hm
  obtain ⟨hT, hL, hF, hK, hwK, hE, hB⟩ := hw
  obtain ⟨g1, g2, ⟨C, hp, gl, ga⟩, g4, g5, g6, g7⟩ := hc
  have m3 := hm.2.2.1
  have hB20 := hB.1
  have hlen := hp.length_eq
  unfold Act fX0_remove fX0_lookUp fX9_unsigns
  by_cases hs : isL p1 ∧ isL p2
  rotate_left
  · rw [isS_f hs, gx_b_some, if_pos rfl]
    refine Or.inl ⟨(1, -2), by simp, ?_, rfl⟩
    have hfind : ∃ r, fX0_find τ.2.2.2 p1 p2 = some r := by
      unfold fX0_find
      have hl20 : C.length ≤ 20 := by omega
      have : ∀ (d i n : Nat), i + d = C.length → d < n → ∃ r, fX0_find_2 τ.2.2.2 n p1 p2 (nI i) = some r := by
        intro d
        induction d with
        | zero =>
          intro i n hi hn
          obtain ⟨m, rfl⟩ : ∃ m, n = m + 1 := ⟨n - 1, by omega⟩
          refine ⟨-1, ?_⟩
          rw [fX0_find_2_s, show os_f τ.2.2.2 2 = nI C.length from gl, n_le (by omega) (by omega), if_pos (by omega)]
        | succ d ih =>
          intro i n hi hn
          obtain ⟨m, rfl⟩ : ∃ m, n = m + 1 := ⟨n - 1, by omega⟩
          rw [fX0_find_2_s, show os_f τ.2.2.2 2 = nI C.length from gl, n_le (by omega) (by omega), if_neg (by omega), gx_chk_t (nI_in (by omega) (by decide))]
          unfold fX0_number
          rw [gx_b_some]
          split
          · exact ⟨_, rfl⟩
          · rw [nI_1]
            exact ih (i + 1) m (by omega) (by omega)
      exact this C.length 0 2000 (by omega) (by omega)
    obtain ⟨r, hr⟩ := hfind
    by_cases h1 : isL p1
    · rw [isL_t h1, gx_b_some, if_neg one0, isL_f (fun q => hs ⟨h1, q⟩), gx_b_some, if_pos rfl, gx_b_some, hr, gx_b_some, if_pos (by decide)]; rfl
    · rw [isL_f h1, gx_b_some, if_pos rfl, gx_b_some, hr, gx_b_some, if_pos (by decide)]; rfl
  rw [isS_t hs.1 hs.2, gx_b_some, if_neg one0, isL_t hs.1, gx_b_some, if_neg one0, isL_t hs.2, gx_b_some, if_neg one0]
  obtain ⟨⟨a, a1, a2, rfl⟩, ⟨b, b1', b2, rfl⟩⟩ := hs
  rcases both_find (τ := τ.2.2.2) hB m3 hp gl ga a1 a2 b1' b2 with ⟨k, j, e, q1, q2, q3, q4, q5⟩ | ⟨q1, q2, q3⟩
  rotate_left
  · rw [q2, gx_b_some, if_pos rfl, gx_b_some, gx_b_some, if_pos (show (-5 : Int32) < 0 by decide), q3, gx_b_some, if_pos rfl]
    exact Or.inl ⟨(2, -5), by simp, rfl, rfl⟩
  have hk := get_lt q1
  have hj := get_lt q2
  obtain ⟨y1, y2, y3⟩ := hB.2.2 e (List.mem_of_getElem? q2)
  have hw9 := nodup_erase hB j
  have gk : gx_in (nI k) 20 := nI_in (by omega) (by decide)
  have ek : (nI k).toNatClampNeg = k := nI_clamp (by omega)
  have hle : (V.2.2.1.eraseIdx j).length = V.2.2.1.length - 1 := List.length_eraseIdx_of_lt hj
  obtain ⟨z, hz⟩ := lt_get (K := C) (k := C.length - 1) (by omega)
  have hpp : (C.set k z).dropLast.Perm (V.2.2.1.eraseIdx j) := by
    have h1 := ((pm_erase C k e q1).symm.trans (hp.trans (pm_erase V.2.2.1 j e q2))).cons_inv
    refine List.Perm.trans ?_ h1
    have h2 := pm_set C k z hk
    have h3 : (C.set k z)[(C.set k z).length - 1]? = some z := by
      rw [List.length_set]
      by_cases c : k = C.length - 1
      · rw [← c, List.getElem?_set_self hk]
      · rw [List.getElem?_set_ne c]; exact hz
    exact ((pm_last h3).symm.trans h2).cons_inv
  rw [q4, gx_b_some, if_neg (n_m1 (by omega)), gx_chk_t gk, ek, show os_a τ.2.2.2 1 k = nI e.2 from (ga k e q1).2, gx_b_some, gx_b_some, if_neg (nI_pos (by omega)), if_neg (n_m1 (by omega)), q5, gx_b_some, if_neg (n_m1 (by omega))]
  have e9 : os_f (os_sf τ.2.2.2 2 (os_f τ.2.2.2 2 - 1)) 2 = nI (C.length - 1) := by
    show (os_sf τ.2.2.2 2 (os_f τ.2.2.2 2 - 1)).1 2 = _
    rw [sf_same, show os_f τ.2.2.2 2 = nI C.length from gl, show (1 : Int32) = nI 1 from rfl, n_sub (by omega)]
  have e8 : ∀ v, os_f (os_sa (os_sf τ.2.2.2 2 (os_f τ.2.2.2 2 - 1)) 0 k v) 2 = nI (C.length - 1) := fun v => e9
  have g9 : gx_in (nI (C.length - 1)) 20 := nI_in (by omega) (by decide)
  have ec : (nI (C.length - 1)).toNatClampNeg = C.length - 1 := nI_clamp (by omega)
  simp only [e9, e8, gx_chk_t g9, ec, ek, gx_chk_t gk]
  have z1 : os_a (os_sf τ.2.2.2 2 (os_f τ.2.2.2 2 - 1)) 0 (C.length - 1) = nI (z.1 - 2619) := (ga _ z hz).1
  have z2 : os_a (os_sa (os_sf τ.2.2.2 2 (os_f τ.2.2.2 2 - 1)) 0 k (nI (z.1 - 2619))) 1 (C.length - 1) = nI z.2 := by
    show (os_sa (os_sf τ.2.2.2 2 (os_f τ.2.2.2 2 - 1)) 0 k (nI (z.1 - 2619))).2 1 (C.length - 1) = _
    rw [sa_j (by decide)]
    exact (ga _ z hz).2
  have x1 : nI (91 + 2 * j) + (1 : Int32) = nI (91 + 2 * j + 1) := nI_1 _
  have e6 : os_a σ 1 (6 : Int32).toNatClampNeg = nI V.2.2.1.length := by rw [tc6]; exact m3.1
  obtain ⟨σ', s1, s2, s3, s4, s5⟩ := m_un55 (k := j) (left := V.2.2.1.length - 1) (by omega) (by omega) (nI e.2) (2 * (V.2.2.1.length - 1) - 2 * j) (2 * j) 2000 σ (by omega) (by omega) (by omega)
  rw [z1, z2, n_off2, x1, gx_chk_t (nI_in (by omega) (by decide)), gx_chk_t gi6, show (nI (91 + 2 * j + 1)).toNatClampNeg = 91 + 2 * j + 1 from nI_clamp (by omega), show os_a σ 1 (91 + 2 * j + 1) = nI e.2 from (m3.2 j e q2).2, e6, show nI V.2.2.1.length - (1 : Int32) = nI (V.2.2.1.length - 1) from n_sub (a := V.2.2.1.length) (b := 1) (by omega), show (2 : Int32) * nI j = nI (2 * j) from n_mul 2 j, s1]
  refine Or.inr ⟨(V.1, V.2.1, V.2.2.1.eraseIdx j, V.2.2.2), w, (τ.1, τ.2.1, τ.2.2.1, os_sa (os_sa (os_sf τ.2.2.2 2 (os_f τ.2.2.2 2 - 1)) 0 k (nI (z.1 - 2619))) 1 k (nI z.2)), σ', e.2, rfl, rfl, by omega, hwK, ⟨g1, g2, ⟨(C.set k z).dropLast, hpp, ?_, fun i y hy => ?_⟩, g4, g5, g6, g7⟩, zG_B hT.2.1 hK hm0 ?_ (fun i hi h6 => ?_), ⟨hT, hL, hF, hK, Nat.zero_le _, hE, hw9⟩, Nat.le_succ _, ⟨s2, s4⟩, s3, _, rfl⟩
  · show (os_sf τ.2.2.2 2 (os_f τ.2.2.2 2 - 1)).1 2 = _
    rw [show (os_sf τ.2.2.2 2 (os_f τ.2.2.2 2 - 1)).1 2 = nI (C.length - 1) from e9]
    simp
  · have hi := get_lt hy
    have hi2 : i < C.length - 1 := by simpa using hi
    have hy2 : (C.set k z)[i]? = some y := by
      rw [List.getElem?_dropLast, List.length_set, if_pos hi2] at hy
      exact hy
    show (os_sa (os_sa (os_sf τ.2.2.2 2 (os_f τ.2.2.2 2 - 1)) 0 k (nI (z.1 - 2619))) 1 k (nI z.2)).2 0 i = _ ∧ (os_sa (os_sa (os_sf τ.2.2.2 2 (os_f τ.2.2.2 2 - 1)) 0 k (nI (z.1 - 2619))) 1 k (nI z.2)).2 1 i = _
    by_cases c : i = k
    · subst c
      rw [List.getElem?_set_self hk] at hy2
      cases hy2
      rw [sa_j (q := 0) (by decide), sa_same, sa_same]
      exact ⟨rfl, rfl⟩
    · rw [List.getElem?_set_ne (fun q => c q.symm)] at hy2
      rw [sa_j (q := 0) (by decide), sa_i (j := 0) c, sa_i (j := 1) c, sa_j (q := 1) (by decide)]
      exact ga i y hy2
  · refine ⟨by rw [s5, if_pos rfl, hle], fun i y hy => ?_⟩
    have hi := get_lt hy
    have hv9 : ∀ c, c < 2 → σ'.2 1 (91 + 2 * i + c) = if i < j then σ.2 1 (91 + 2 * i + c) else σ.2 1 (91 + 2 * (i + 1) + c) := by
      intro c hc
      rw [s5, if_neg (by omega), if_neg (by omega)]
      by_cases c9 : i < j
      · rw [if_pos c9, if_neg (by omega)]
      · rw [if_neg c9, if_pos (by omega)]
        exact congrArg (σ.2 1) (by omega)
    have h0 := hv9 0 (by omega)
    rw [Nat.add_zero, Nat.add_zero] at h0
    rw [h0, hv9 1 (by omega)]
    rw [List.getElem?_eraseIdx] at hy
    by_cases c9 : i < j
    · rw [if_pos c9] at hy ⊢
      rw [if_pos c9]
      exact m3.2 i y hy
    · rw [if_neg c9] at hy ⊢
      rw [if_neg c9]
      exact m3.2 (i + 1) y hy
  · rw [s5, if_neg h6, if_neg (by omega), if_neg (by omega)]
end Acts2
