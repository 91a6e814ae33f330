/-! runCommands -/
theorem r_next0 {L : Nat} {s t : OS} (hL : L ≤ 60) (ht : t.1 1 = nI L) {p : Nat} (hs : s.1 1 = nI p) (hp : p ≤ 60) (hk : (nxt (t.2 0) L p).1 = true) : ∃ s', fX5_readNext (s, t) = some (1, (s', t)) ∧ gC (nxt (t.2 0) L p) s' := by
  obtain ⟨s', q1, q2⟩ := r_next hL ht hs hp
  rw [hk] at q1
  exact ⟨s', q1, q2⟩
def rdl (T : Nat → Int32) (L : Nat) : Nat → List (Nat × Int32 × Int32 × Int32) → Prop
  | _, [] => True
  | p, c :: l => (nxt T L p).1 = true ∧ (nxt T L p).2.2 = c ∧ rdl T L (nxt T L p).2.1 l
theorem rdl_prs {T : Nat → Int32} {L : Nat} : ∀ (F p : Nat), (prs T L F p).1 = true → rdl T L p (prs T L F p).2.2 ∧ p + 3 * (prs T L F p).2.2.length ≤ L := by
  intro F
  induction F with
  | zero => intro p h; cases h
  | succ F ih =>
    intro p h
    rcases b_cases (nxt T L p).1 with hk | hk
    · have hle := nxt_le hk
      rw [prs_t hk] at h ⊢
      unfold prq at h ⊢
      by_cases c : (nxt T L p).2.1 = L
      · rw [if_pos c]
        refine ⟨⟨hk, rfl, trivial⟩, ?_⟩
        show p + 3 * 1 ≤ L
        omega
      · rw [if_neg c] at h ⊢
        obtain ⟨i1', i2⟩ := ih _ h
        refine ⟨⟨hk, rfl, i1'⟩, ?_⟩
        rw [List.length_cons]
        omega
    · rw [prs_f hk] at h
      cases h
/-- one command: a refusal, or what it does -/
theorem d_one {V : AN} {w n : Nat} {τ : NS} {σ s : OS} {nb sv : NS} {rest : OS × OS × HS × OS} {c : Nat × Int32 × Int32 × Int32} (hw : wO V w) (hc : zN V w τ) (hm : zG V 0 (σ.2 1)) (hb : tot V < 2 ^ 31) (hn : n < 60) (ht : cdT σ n c) (h2 : s.1 2 = nI c.1) (h3 : s.1 3 = c.2.1) (h4 : c.1 = 1 ∨ c.1 = 2 ∨ c.1 = 4 ∨ c.1 = 5 → s.1 4 = c.2.2.1) (h5 : c.1 = 1 ∨ c.1 = 4 ∨ c.1 = 5 → s.1 5 = c.2.2.2) :
    (∃ (d : Int32) (e : Nat), d < 0 ∧ 0 < e ∧ e < 2 ^ 31 ∧ fX8_carryOut (τ, nb, sv, s, rest) = some (d, (τ, nb, sv, s, rest)) ∧ fX9_does σ (nI n) = some (nI e, σ)) ∨ (∃ V' w' τ' σ' a, fX8_carryOut (τ, nb, sv, s, rest) = some (nI a, (τ', nb, sv, s, rest)) ∧ fX9_does σ (nI n) = some (0, σ') ∧ a < 2 ^ 31 ∧ w' ≤ V'.2.1.length ∧ zN V' w' τ' ∧ zG V' 0 (σ'.2 1) ∧ wO V' 0 ∧ tot V' ≤ tot V + 1 ∧ frm σ σ') := by
  obtain ⟨kd, x, y, z⟩ := c
  obtain ⟨⟨k1, k6⟩, t0, t1, t2, t3⟩ := ht
  have e0 : (4 : Int32) * nI n = nI (4 * n) := by rw [show (4 : Int32) = nI 4 from rfl, n_mul]
  have e1 : nI (4 * n) + (1 : Int32) = nI (4 * n + 1) := by rw [nI_1]
  have e2 : nI (4 * n) + (2 : Int32) = nI (4 * n + 2) := by rw [show (2 : Int32) = nI 2 from rfl, nI_add]
  have e3 : nI (4 * n) + (3 : Int32) = nI (4 * n + 3) := by rw [show (3 : Int32) = nI 3 from rfl, nI_add]
  have g0 : gx_in (nI (4 * n)) 240 := nI_in (by omega) (by decide)
  have g1 : gx_in (nI (4 * n + 1)) 240 := nI_in (by omega) (by decide)
  have g2 : gx_in (nI (4 * n + 2)) 240 := nI_in (by omega) (by decide)
  have g3 : gx_in (nI (4 * n + 3)) 240 := nI_in (by omega) (by decide)
  have c0 : (nI (4 * n)).toNatClampNeg = 4 * n := nI_clamp (by omega)
  have c1 : (nI (4 * n + 1)).toNatClampNeg = 4 * n + 1 := nI_clamp (by omega)
  have c2 : (nI (4 * n + 2)).toNatClampNeg = 4 * n + 2 := nI_clamp (by omega)
  have c3 : (nI (4 * n + 3)).toNatClampNeg = 4 * n + 3 := nI_clamp (by omega)
  have h2' : os_f s 2 = nI kd := h2
  have h3' : os_f s 3 = x := h3
  have t0' : os_a σ 8 (4 * n) = cde kd := t0
  have t1' : os_a σ 8 (4 * n + 1) = x := t1
  have g7 : gx_in (nI kd) 7 := nI_in (by show kd < 7; simp only [] at k6; omega) (by decide)
  have fin : ∀ {tbl : List (Nat × Int32)} {rc : Option (Int32 × NS)} {rm : Option (Int32 × OS)}, (∀ q ∈ tbl, q.2 < 0 ∧ 0 < q.1 ∧ q.1 < 2 ^ 31) → Act V tbl τ σ rc rm → fX8_carryOut (τ, nb, sv, s, rest) = gx_b rc (fun r => some (r.1, (r.2, nb, sv, s, rest))) → fX9_does σ (nI n) = gx_b rm (fun r => some (r.1, r.2)) → (∃ (d : Int32) (e : Nat), d < 0 ∧ 0 < e ∧ e < 2 ^ 31 ∧ fX8_carryOut (τ, nb, sv, s, rest) = some (d, (τ, nb, sv, s, rest)) ∧ fX9_does σ (nI n) = some (nI e, σ)) ∨ (∃ V' w' τ' σ' a, fX8_carryOut (τ, nb, sv, s, rest) = some (nI a, (τ', nb, sv, s, rest)) ∧ fX9_does σ (nI n) = some (0, σ') ∧ a < 2 ^ 31 ∧ w' ≤ V'.2.1.length ∧ zN V' w' τ' ∧ zG V' 0 (σ'.2 1) ∧ wO V' 0 ∧ tot V' ≤ tot V + 1 ∧ frm σ σ') := by
    intro tbl rc rm htb ha f1 f2
    rcases ha with ⟨q, hq, r1, r2⟩ | ⟨V', w', τ', σ', a, r1, r2, r3, r4, r5, r6, r7, r8, r9, r10⟩
    · obtain ⟨q1, q2, q3⟩ := htb q hq
      refine Or.inl ⟨q.2, q.1, q1, q2, q3, ?_, ?_⟩
      · rw [f1, r1]; rfl
      · rw [f2, r2]; rfl
    · refine Or.inr ⟨V', w', τ', σ', a, ?_, ?_, r3, r4, r5, r6, r7, r8, r9⟩
      · rw [f1, r1]; rfl
      · rw [f2, r2]; rfl
  have fd : ∀ (v : Int32) , cde kd = v → fX9_does σ (nI n) = (if v = 97 then (gx_b (fX9_adds σ x (os_a σ 8 (4 * n + 2)) (os_a σ 8 (4 * n + 3))) (fun r121 => (some (r121.1, r121.2)))) else (if v = 102 then (gx_b (fX9_fires σ x) (fun r134 => (some (r134.1, r134.2)))) else (if v = 108 then (gx_b (fX9_signs σ x (os_a σ 8 (4 * n + 2)) (os_a σ 8 (4 * n + 3))) (fun r143 => (some (r143.1, r143.2)))) else (if v = 109 then (gx_b (fX9_moves σ x (os_a σ 8 (4 * n + 2))) (fun r128 => (some (r128.1, r128.2)))) else (if v = 111 then (gx_b (fX9_sends σ x (os_a σ 8 (4 * n + 2)) (os_a σ 8 (4 * n + 3))) (fun r152 => (some (r152.1, r152.2)))) else (gx_b (fX9_passes σ x) (fun r158 => (some (r158.1, r158.2))))))))) := by
    intro v hv
    unfold fX9_does
    simp only [e1, e2, e3, e0, gx_chk_t g0, gx_chk_t g1, gx_chk_t g2, gx_chk_t g3, c0, c1, c2, c3, t0', t1', hv]
  have fc : fX8_carryOut (τ, nb, sv, s, rest) = (if nI kd = (1 : Int32) then (gx_b (fX2_enlist τ x (os_f s 4) (os_f s 5)) (fun r38 => (some (r38.1, (r38.2, nb, sv, s, rest))))) else (if nI kd = (2 : Int32) then (gx_b (fX2_move τ x (os_f s 4)) (fun r73 => (some (r73.1, (r73.2, nb, sv, s, rest))))) else (if nI kd = (3 : Int32) then (gx_b (fX2_fire τ x) (fun r101 => (some (r101.1, (r101.2, nb, sv, s, rest))))) else (if nI kd = (4 : Int32) then (gx_b (fX2_giveOrder τ x (os_f s 4) (os_f s 5)) (fun r143 => (some (r143.1, (r143.2, nb, sv, s, rest))))) else (if nI kd = (5 : Int32) then (gx_b (fX0_assign τ.2.2.2 x (os_f s 4) (os_f s 5)) (fun r188 => (some (r188.1, ((τ.1, (τ.2.1, (τ.2.2.1, r188.2))), nb, sv, s, rest))))) else (gx_b (fX2_letHoursPass τ x) (fun r203 => (some (r203.1, (r203.2, nb, sv, s, rest)))))))))) := by
    unfold fX8_carryOut
    simp only [h2', h3', gx_chk_t g7]
  have hk : kd = 1 ∨ kd = 2 ∨ kd = 3 ∨ kd = 4 ∨ kd = 5 ∨ kd = 6 := by simp only [] at k1 k6; omega
  clear h2 h3 k1 k6
  rcases hk with rfl | rfl | rfl | rfl | rfl | rfl
  · have u4 : os_f s 4 = y := h4 (Or.inl rfl)
    have u5 : os_f s 5 = z := h5 (Or.inl rfl)
    have v2 : os_a σ 8 (4 * n + 2) = y := t2 (Or.inl rfl)
    have v3 : os_a σ 8 (4 * n + 3) = z := t3 (Or.inl rfl)
    refine fin (tbl := [(1, -1), (2, -2), (3, -3)]) (by decide) (a_add hw hc hm x y z) ?_ ?_
    · rw [fc, if_pos (by decide), u4, u5]
    · rw [fd 97 rfl, if_pos (by decide), v2, v3]
  · have u4 : os_f s 4 = y := h4 (Or.inr (Or.inl rfl))
    have v2 : os_a σ 8 (4 * n + 2) = y := t2 (Or.inr (Or.inl rfl))
    refine fin (tbl := [(1, -1), (2, -2), (3, -4), (4, -3)]) (by decide) (a_move hw hc hm x y) ?_ ?_
    · rw [fc, if_neg (by decide), if_pos (by decide), u4]
    · rw [fd 109 rfl, if_neg (by decide), if_neg (by decide), if_neg (by decide), if_pos (by decide), v2]
  · refine fin (tbl := [(1, -1), (2, -2)]) (by decide) (a_fire hw hc hm x) ?_ ?_
    · rw [fc, if_neg (by decide), if_neg (by decide), if_pos (by decide)]
    · rw [fd 102 rfl, if_neg (by decide), if_pos (by decide)]
  · have u4 : os_f s 4 = y := h4 (Or.inr (Or.inr (Or.inl rfl)))
    have u5 : os_f s 5 = z := h5 (Or.inr (Or.inl rfl))
    have v2 : os_a σ 8 (4 * n + 2) = y := t2 (Or.inr (Or.inr (Or.inl rfl)))
    have v3 : os_a σ 8 (4 * n + 3) = z := t3 (Or.inr (Or.inl rfl))
    refine fin (tbl := [(1, -1), (2, -2), (3, -3), (4, -4)]) (by decide) (a_send hw hc hm x y z) ?_ ?_
    · rw [fc, if_neg (by decide), if_neg (by decide), if_neg (by decide), if_pos (by decide), u4, u5]
    · rw [fd 111 rfl, if_neg (by decide), if_neg (by decide), if_neg (by decide), if_neg (by decide), if_pos (by decide), v2, v3]
  · have u4 : os_f s 4 = y := h4 (Or.inr (Or.inr (Or.inr rfl)))
    have u5 : os_f s 5 = z := h5 (Or.inr (Or.inr rfl))
    have v2 : os_a σ 8 (4 * n + 2) = y := t2 (Or.inr (Or.inr (Or.inr rfl)))
    have v3 : os_a σ 8 (4 * n + 3) = z := t3 (Or.inr (Or.inr rfl))
    refine fin (tbl := [(1, -2), (2, -3)]) (by decide) (a_sign hw hc hm x y z) ?_ ?_
    · rw [fc, if_neg (by decide), if_neg (by decide), if_neg (by decide), if_neg (by decide), if_pos (by decide), u4, u5, bk_b]
    · rw [fd 108 rfl, if_neg (by decide), if_neg (by decide), if_pos (by decide), v2, v3]
  · refine fin (tbl := [(1, -2)]) (by decide) (a_pass hw hc hm hb x) ?_ ?_
    · rw [fc, if_neg (by decide), if_neg (by decide), if_neg (by decide), if_neg (by decide), if_neg (by decide)]
    · rw [fd 119 rfl, if_neg (by decide), if_neg (by decide), if_neg (by decide), if_neg (by decide), if_neg (by decide)]
theorem frm_tr {a b c : OS} (h : frm a b) (g : frm b c) : frm a c := ⟨fun k hk => (g.1 k hk).trans (h.1 k hk), fun q hq => (g.2 q hq).trans (h.2 q hq)⟩
theorem lsT_mv {σ σ' : OS} (h : σ'.2 8 = σ.2 8) : ∀ (l : List (Nat × Int32 × Int32 × Int32)) (n : Nat), lsT σ n l → lsT σ' n l := by
  intro l
  induction l with
  | nil => intro n _; trivial
  | cons c l ih => intro n g; exact ⟨cdT_c g.1 (fun i _ => by rw [h]), ih _ g.2⟩
theorem lt0_nle {d : Int32} (h : d < 0) : ¬ (0 : Int32) ≤ d := by
  intro h9
  rw [Int32.lt_iff_toInt_lt] at h
  rw [Int32.le_iff_toInt_le] at h9
  omega
theorem d_all {L : Nat} {t : OS} {nb sv : NS} {rest : OS × HS × OS} (hL : L ≤ 60) (ht : t.1 1 = nI L) : ∀ (l : List (Nat × Int32 × Int32 × Int32)) (j p w fu1 fu2 : Nat) (V : AN) (τ : NS) (s σ : OS), wO V w → zN V w τ → zG V 0 (σ.2 1) → tot V + l.length < 2 ^ 31 → w ≤ V.2.1.length → rdl (t.2 0) L p l → s.1 1 = nI p → p ≤ L → lsT σ j l → σ.1 17 = nI (j + l.length) → j + l.length < 60 → l.length < fu1 → l.length < fu2 →
    (∃ V' w' τ' s' σ', fX8_carryOutAll_9 fu1 (τ, nb, sv, s, t, rest) (nI (j + l.length)) (nI j) = some (-1, (τ', nb, sv, s', t, rest)) ∧ fX9_runCommands_104 fu2 σ (nI j) = gx_b (fX9_changed σ' (nI (j + l.length))) (fun r => some (r.1, r.2)) ∧ w' ≤ V'.2.1.length ∧ zN V' w' τ' ∧ zG V' 0 (σ'.2 1) ∧ wO V' 0 ∧ tot V' ≤ tot V + l.length ∧ frm σ σ') ∨
    (∃ i τ' s' σ', i < 60 ∧ fX8_carryOutAll_9 fu1 (τ, nb, sv, s, t, rest) (nI (j + l.length)) (nI j) = some (nI i, (τ', nb, sv, s', t, rest)) ∧ fX9_runCommands_104 fu2 σ (nI j) = fX9_runCommands_125 2000 σ' (nI i) 0 ∧ frm σ σ') := by
  intro l
  induction l with
  | nil =>
    intro j p w fu1 fu2 V τ s σ hw hc hm hb hwl _ hs hp _ h17 hj hf1 hf2
    obtain ⟨m1, rfl⟩ : ∃ m, fu1 = m + 1 := ⟨fu1 - 1, by simp only [List.length_nil] at hf1; omega⟩
    obtain ⟨m2, rfl⟩ : ∃ m, fu2 = m + 1 := ⟨fu2 - 1, by simp only [List.length_nil] at hf2; omega⟩
    have h17' : σ.1 17 = nI j := h17
    show (∃ V' w' τ' s' σ', fX8_carryOutAll_9 (m1 + 1) (τ, nb, sv, s, t, rest) (nI j) (nI j) = some (-1, (τ', nb, sv, s', t, rest)) ∧ fX9_runCommands_104 (m2 + 1) σ (nI j) = gx_b (fX9_changed σ' (nI j)) (fun r => some (r.1, r.2)) ∧ w' ≤ V'.2.1.length ∧ zN V' w' τ' ∧ zG V' 0 (σ'.2 1) ∧ wO V' 0 ∧ tot V' ≤ tot V + 0 ∧ frm σ σ') ∨ _
    left
    refine ⟨V, w, τ, s, σ, ?_, ?_, hwl, hc, hm, ⟨hw.1, hw.2.1, hw.2.2.1, hw.2.2.2.1, Nat.zero_le _, hw.2.2.2.2.2⟩, Nat.le_refl _, ⟨fun _ _ => rfl, fun _ _ => rfl⟩⟩
    · rw [fX8_carryOutAll_9_s, if_pos (Int32.le_refl _)]
    · rw [fX9_runCommands_104_s, show os_f σ 17 = nI j from h17', if_pos (Int32.le_refl _)]
  | cons c l ih =>
    intro j p w fu1 fu2 V τ s σ hw hc hm hb hwl hr hs hp hl h17 hj hf1 hf2
    simp only [List.length_cons] at hb h17 hj hf1 hf2 ⊢
    obtain ⟨m1, rfl⟩ : ∃ m, fu1 = m + 1 := ⟨fu1 - 1, by omega⟩
    obtain ⟨m2, rfl⟩ : ∃ m, fu2 = m + 1 := ⟨fu2 - 1, by omega⟩
    obtain ⟨r1, r2, r3⟩ := hr
    obtain ⟨l1, l2⟩ := hl
    obtain ⟨s1, q1, q2, q3⟩ := r_next0 hL ht hs (by omega) r1
    obtain ⟨q4, q5, q6, q7⟩ := q3 r1
    rw [r2] at q4 q5 q6 q7
    have hle := nxt_le r1
    have hno : ¬ nI (j + (l.length + 1)) ≤ nI j := by rw [nI_leI (by omega) (by omega)]; omega
    rw [fX8_carryOutAll_9_s, if_neg hno, fX9_runCommands_104_s, show os_f σ 17 = nI (j + (l.length + 1)) from h17, if_neg hno, show fX5_readNext (s, t) = _ from q1, gx_b_some, if_neg one0]
    rcases d_one (nb := nb) (sv := sv) (rest := (t, rest)) hw hc hm (by omega) (by omega) l1 q4 q5 q6 q7 with ⟨d, e, d1, d2, d3, d4, d5⟩ | ⟨V', w', τ', σ', a, d1, d2, d3, d4, d5, d6, d7, d8, d9⟩
    · right
      refine ⟨j, τ, s1, σ, by omega, ?_, ?_, ⟨fun _ _ => rfl, fun _ _ => rfl⟩⟩
      · rw [show fX8_carryOut (τ, nb, sv, (1, s1, t).2.1, (1, s1, t).2.2, rest) = _ from d4, gx_b_some, if_neg (lt0_nle d1)]
      · rw [d5, gx_b_some, if_neg (nI_ne0 d2 d3)]
    · have hw' : wO V' w' := ⟨d7.1, d7.2.1, d7.2.2.1, d7.2.2.2.1, d4, d7.2.2.2.2.2⟩
      have hx := ih (j + 1) (nxt (t.2 0) L p).2.1 w' m1 m2 V' τ' s1 σ' hw' d5 d6 (by omega) d4 r3 q2 (by omega) (lsT_mv (d9.2 8 (by decide)) l (j + 1) l2) (by rw [d9.1 17 (by decide), h17]; congr 1; omega) (by omega) (by omega) (by omega)
      rw [show j + 1 + l.length = j + (l.length + 1) by omega] at hx
      rw [show fX8_carryOut (τ, nb, sv, (1, s1, t).2.1, (1, s1, t).2.2, rest) = _ from d1, gx_b_some, if_pos (nI_pos' d3), d2, gx_b_some, if_pos rfl, nI_1]
      rcases hx with ⟨V2, w2, τ2, s2, σ2, y1, y2, y3, y4, y5, y6, y7, y8⟩ | ⟨i, τ2, s2, σ2, y1, y2, y3, y4⟩
      · left
        exact ⟨V2, w2, τ2, s2, σ2, y1, y2, y3, y4, y5, y6, by omega, frm_tr d9 y8⟩
      · right
        exact ⟨i, τ2, s2, σ2, y1, y2, y3, frm_tr d9 y4⟩
/-- the reference, after reading -/
theorem m_run {σ : OS} {σ1 : OS} (h1 : fX9_remembers σ = some σ1) : fX9_runCommands σ = gx_b (fX9_readsOne (os_sf (os_sf (os_sf (os_sf (os_sf σ1 15 (0 : Int32)) 16 (σ1.1 10)) 10 (0 : Int32)) 17 (0 : Int32)) 18 (0 : Int32))) (fun r33 => fX9_runCommands_36 2000 r33) := by
  unfold fX9_runCommands
  rw [h1, gx_b_some, gx_chk_t (Or.inl rfl), show os_f (os_sf σ1 15 (0 : Int32)) 10 = σ1.1 10 from sf_k (by decide)]
theorem ag_runCommandsF {c : Nat} {k : CS} {σ : OS} (h : zR c k σ) (hb : c + 60 ≤ 2 ^ 31) {F : Nat} (hF : F = 100) : Ag_runCommands (zR (c + 60)) k σ := by
  obtain ⟨V, S, Hs, ⟨w, a0, a1⟩, a2, a3, a4, a5, a6, a7, a8, ⟨L, x1, x2, x3, x4⟩, a10, a11, a12⟩ := h
  obtain ⟨now, bef, sav, s, t, out, his, err⟩ := k
  obtain ⟨σ1, m1, m2, m3, m4⟩ := m_remembers σ
  have hG1 : zG V 0 (σ1.2 1) := by rw [m3 1 (by decide)]; exact a2
  have hG2 : zG V 0 (σ1.2 2) := zG_mv a3 a2 m4
  obtain ⟨n', c1, c2⟩ := c_copy bef a3 a1
  have hwV : wO V w := ⟨a3.1, a3.2.1, a3.2.2.1, a3.2.2.2.1, a0, a3.2.2.2.2.2⟩
  have m2' : ∀ i, i ≠ 0 → σ1.1 i = σ.1 i := fun i hi => by rw [m2]; exact sf_k hi
  have hc : fX6_clear t = some (os_sf t 1 0) := rfl
  have hm : mR (t.2 0) L 0 false 0 (os_sf (os_sf (os_sf (os_sf (os_sf σ1 15 (0 : Int32)) 16 (σ1.1 10)) 10 (0 : Int32)) 17 (0 : Int32)) 18 (0 : Int32)) := by
    refine ⟨?_, ?_, ?_, sf_same, fun i hi => ?_⟩
    · rw [sf_k (by decide), sf_k (by decide), sf_k (by decide), sf_k (by decide), sf_same]; rfl
    · rw [sf_k (by decide), sf_k (by decide), sf_k (by decide), sf_same, m2' 10 (by decide)]; exact x3
    · rw [sf_k (by decide), sf_same]; rfl
    · show σ1.2 7 i = t.2 0 i
      rw [m3 7 (by decide)]
      exact (x4 i hi).symm
  obtain ⟨σ2, n1, n2⟩ := m_reads x1 (F := F) (by omega) (by omega) hm
  obtain ⟨s2, e1, e2⟩ := r_allF (s := s) x1 x2 (F := F) (by omega) (by omega)
  have f1 : ∀ i, i ≠ 15 → i ≠ 16 → i ≠ 10 → i ≠ 17 → i ≠ 18 → i ≠ 0 → σ2.1 i = σ.1 i := fun i k1 k2 k3 k4 k5 k6 => by
    rw [n2.1 i k1 k4 k5, sf_k k5, sf_k k4, sf_k k3, sf_k k2, sf_k k1, m2' i k6]
  have f0 : σ2.1 0 = 0 := by
    rw [n2.1 0 (by decide) (by decide) (by decide), sf_k (by decide), sf_k (by decide), sf_k (by decide), sf_k (by decide), sf_k (by decide), m2]
    exact sf_same
  have f10 : σ2.1 10 = 0 := by
    rw [n2.1 10 (by decide) (by decide) (by decide), sf_k (by decide), sf_k (by decide), sf_same]
  have f2 : ∀ q, q ≠ 2 → q ≠ 8 → σ2.2 q = σ.2 q := fun q k1 k2 => by
    rw [n2.2 q k2]
    exact m3 q k1
  have f22 : ∀ p, p < 131 → σ2.2 2 p = σ.2 1 p := fun p hp => by
    rw [n2.2 2 (by decide)]
    exact m4 p hp
  unfold Ag_runCommands
  rw [m_run m1]
  rcases b_cases (prs (t.2 0) L F 0).1 with hk | hk
  · obtain ⟨n3, n4, n5⟩ := n1.1 hk
    rw [if_pos hk] at e1
    obtain ⟨rl, rb⟩ := rdl_prs F 0 hk
    generalize (prs (t.2 0) L F 0).2.2 = l at *
    have hz : zG V 0 (σ2.2 1) := by rw [f2 1 (by decide) (by decide)]; exact a2
    have hx := d_all (nb := n') (sv := sav) (rest := (out, his, err)) x1 x2 l 0 0 w 2000 2000 V now (os_sf s2 1 0) σ2 hwV a1 hz (by omega) a0 rl sf_same (by omega) n5 n4 (by omega) (by omega) (by omega)
    rw [Nat.zero_add, show nI 0 = (0 : Int32) from rfl] at hx
    have hca : ∀ (v : Int32), fX8_carryOutAll (now, (n', (sav, (s2, (t, (out, (his, err))))))) v = fX8_carryOutAll_9 2000 (now, n', sav, os_sf s2 1 0, t, out, his, err) v 0 := fun v => by
      unfold fX8_carryOutAll fX5_rewind
      rw [gx_b_some]
    rcases hx with ⟨V', w', τ', s', σ', y1, y2, y3, y4, y5, y6, y7, y8⟩ | ⟨i, τ', s', σ', y0, y1, y2, y3⟩
    · have g1 : ∀ i, i ≠ 0 → i ≠ 5 → i ≠ 10 → i < 14 → σ'.1 i = σ.1 i := fun i _ _ _ _ => (y8.1 i (by omega)).trans (f1 i (by omega) (by omega) (by omega) (by omega) (by omega) (by omega))
      have g2 : ∀ q, q ≠ 1 → q ≠ 2 → q ≠ 8 → σ'.2 q = σ.2 q := fun q k1 k2 k3 => (y8.2 q k1).trans (f2 q k2 k3)
      obtain ⟨σ3, s1, s2', s3, s4⟩ := m_changed (V := V) (nI l.length) a8.1 (fun U hU => (a8.2 U hU).1) (hG_mv a7 ((y8.1 5 (by decide)).trans (f1 5 (by decide) (by decide) (by decide) (by decide) (by decide) (by decide))) (g2 4 (by decide) (by decide) (by decide))) a3 (by rw [y8.2 2 (by decide)]; exact zG_mv a3 a2 f22)
      obtain ⟨h', t1, t2⟩ := c_keep (h := his) a8.1 a6 a3 a0 c2
      refine ⟨nI l.length, σ3, ?_, Or.inl ⟨(τ', n', sav, s', os_sf t 1 0, out, h', err), ?_, ?_, V', S, hA Hs V, ⟨w', y3, y4⟩, ?_, y6, by omega, ?_, t2, s2', hW_le (by omega) (hW_A a8 a3 a4), ?_, ?_, ?_, ?_⟩⟩
      · rw [n3, y2, s1]
        rfl
      · unfold fX8_runCommands
        rw [show fX2_copyFrom (bef, now) = _ from c1, gx_b_some, show fX5_readAll (s, t) = _ from e1, gx_b_some, if_neg (n_m1 (by omega)), hca, y1, gx_b_some, show fX6_clear t = _ from hc, gx_b_some, if_pos rfl]
        unfold fX8_record
        rw [if_pos (nI_pos' (by omega))]
        unfold fX8_record_8
        rw [show fX1_keep (his, n') = _ from t1]
        rfl
      · show σ3.1 0 = 0
        rw [s3 0 (by decide), y8.1 0 (by decide), f0]
      · rw [s4 1 (by decide)]; exact y5
      · exact zV_le (by omega) (zV_mv a5 ((s3 6 (by decide)).trans (g1 6 (by decide) (by decide) (by decide) (by decide))) ((s4 3 (by decide)).trans (g2 3 (by decide) (by decide) (by decide))))
      · refine ⟨0, by omega, sf_same, ?_, fun i hi => absurd hi (by omega)⟩
        rw [s3 10 (by decide), y8.1 10 (by decide), f10]
        rfl
      · exact zW_mv a10 ((s3 11 (by decide)).trans (g1 11 (by decide) (by decide) (by decide) (by decide))) ((s4 9 (by decide)).trans (g2 9 (by decide) (by decide) (by decide)))
      · exact a11.trans ((s3 12 (by decide)).trans (g1 12 (by decide) (by decide) (by decide) (by decide))).symm
      · exact a12.trans ((s3 13 (by decide)).trans (g1 13 (by decide) (by decide) (by decide) (by decide))).symm
    · obtain ⟨σ3, z1, z2, z3, z4⟩ := m_run125 (nI i) 131 0 2000 σ' (by omega) (by omega)
      obtain ⟨n2', d1, d2⟩ := c_copy τ' a3 c2
      rw [show nI 0 = (0 : Int32) from rfl] at z1
      have g1 : ∀ i, i ≠ 0 → i ≠ 10 → i < 14 → σ3.1 i = σ.1 i := fun i _ _ _ => by rw [z2]; exact (y3.1 i (by omega)).trans (f1 i (by omega) (by omega) (by omega) (by omega) (by omega) (by omega))
      have g2 : ∀ q, q ≠ 1 → q ≠ 2 → q ≠ 8 → σ3.2 q = σ.2 q := fun q k1 k2 k3 => (z3 q k1).trans ((y3.2 q k1).trans (f2 q k2 k3))
      refine ⟨0, os_sf (os_sf σ3 13 (nI i)) 0 2, ?_, Or.inr (Or.inr ⟨(n2', n', sav, s', os_sf t 1 0, out, his, os_sf err 8 (nI i)), ?_, sf_same, V, S, Hs, ⟨w, a0, d2⟩, ?_, a3, by omega, ?_, a6, ?_, hW_le (by omega) a8, ?_, ?_, ?_, ?_⟩)⟩
      · rw [n3, y2, z1]
        rfl
      · unfold xX8_runCommands
        rw [show fX2_copyFrom (bef, now) = _ from c1, gx_b_some, show fX5_readAll (s, t) = _ from e1, gx_b_some, if_neg (n_m1 (by omega)), hca, y1, gx_b_some, show fX6_clear t = _ from hc, gx_b_some, if_neg (n_m1 (by omega)), show fX2_copyFrom (τ', n') = _ from d1]
        rfl
      · refine zG_mv a3 a2 (fun p hp => ?_)
        show σ3.2 1 p = _
        rw [z4, if_pos (by omega), y3.2 2 (by decide), f22 p hp]
      · show zV (c + 60) S sav ((os_sf err 8 (nI i)).1 6) _
        rw [sf_k (by decide)]
        exact zV_le (by omega) (zV_mv a5 ((sf_k (by decide)).trans ((sf_k (by decide)).trans (g1 6 (by decide) (by decide) (by decide)))) (g2 3 (by decide) (by decide) (by decide)))
      · exact hG_mv a7 ((sf_k (by decide)).trans ((sf_k (by decide)).trans (g1 5 (by decide) (by decide) (by decide)))) (g2 4 (by decide) (by decide) (by decide))
      · refine ⟨0, by omega, sf_same, ?_, fun i hi => absurd hi (by omega)⟩
        rw [sf_k (by decide), sf_k (by decide), z2, y3.1 10 (by decide), f10]
        rfl
      · exact zW_mv a10 ((sf_k (by decide)).trans ((sf_k (by decide)).trans (g1 11 (by decide) (by decide) (by decide)))) (g2 9 (by decide) (by decide) (by decide))
      · show (os_sf err 8 (nI i)).1 7 = _
        rw [sf_k (by decide)]
        exact a11.trans ((sf_k (by decide)).trans ((sf_k (by decide)).trans (g1 12 (by decide) (by decide) (by decide)))).symm
      · show (os_sf err 8 (nI i)).1 8 = _
        rw [sf_same, sf_k (by decide), sf_same]
  · obtain ⟨n3, n4⟩ := n1.2 hk
    rw [if_neg (by rw [hk]; decide)] at e1
    refine ⟨0, os_sf (os_sf σ2 12 (σ2.1 15)) 0 1, ?_, Or.inr (Or.inl ⟨(now, n', sav, s2, os_sf t 1 0, out, his, os_sf err 7 (s2.1 1)), ?_, sf_same, V, S, Hs, ⟨w, a0, a1⟩, ?_, a3, by omega, ?_, a6, ?_, hW_le (by omega) a8, ?_, ?_, ?_, ?_⟩)⟩
    · rw [n3]
      rfl
    · unfold xX8_runCommands
      rw [show fX2_copyFrom (bef, now) = _ from c1, gx_b_some, show fX5_readAll (s, t) = _ from e1, gx_b_some, if_pos rfl, show fX6_clear t = _ from hc]
      rfl
    · show zG V 0 (σ2.2 1)
      rw [f2 1 (by decide) (by decide)]; exact a2
    · show zV (c + 60) S sav ((os_sf err 7 (s2.1 1)).1 6) _
      rw [sf_k (by decide)]
      exact zV_le (by omega) (zV_mv a5 ((sf_k (by decide)).trans ((sf_k (by decide)).trans (f1 6 (by decide) (by decide) (by decide) (by decide) (by decide) (by decide)))) (f2 3 (by decide) (by decide)))
    · exact hG_mv a7 ((sf_k (by decide)).trans ((sf_k (by decide)).trans (f1 5 (by decide) (by decide) (by decide) (by decide) (by decide) (by decide)))) (f2 4 (by decide) (by decide))
    · refine ⟨0, by omega, sf_same, ?_, fun i hi => absurd hi (by omega)⟩
      rw [sf_k (by decide), sf_k (by decide), f10]
      rfl
    · exact zW_mv a10 ((sf_k (by decide)).trans ((sf_k (by decide)).trans (f1 11 (by decide) (by decide) (by decide) (by decide) (by decide) (by decide)))) (f2 9 (by decide) (by decide))
    · show (os_sf err 7 (s2.1 1)).1 7 = _
      rw [sf_same, sf_k (by decide), sf_same, e2, n4]
    · show (os_sf err 7 (s2.1 1)).1 8 = _
      rw [sf_k (by decide)]
      exact a12.trans ((sf_k (by decide)).trans ((sf_k (by decide)).trans (f1 13 (by decide) (by decide) (by decide) (by decide) (by decide) (by decide)))).symm
theorem ag_runCommands {c : Nat} {k : CS} {σ : OS} (h : zR c k σ) (hb : c + 60 ≤ 2 ^ 31) : Ag_runCommands (zR (c + 60)) k σ := ag_runCommandsF h hb rfl
