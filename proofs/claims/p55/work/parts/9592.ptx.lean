/-! the class runs a text in which no order is given -/
section Tx9
variable {T : Nat → Int32} {L : Nat}
theorem alk9_0 {a : Nat} {c : Int32} {w : List Int32} (h : ¬ st T L a c = true) : alk T L a (c :: w) = 0 := if_neg h
theorem alk9_1 {a : Nat} {c : Int32} {w : List Int32} (h : st T L a c = true) : alk T L a (c :: w) = 1 + alk T L (a + 1) w := if_pos h
theorem wrd_no4 (hno : ∀ a, st T L a 111 = true → ¬ st T L (a + 1) 114 = true) (a : Nat) : (wrd T L a).1 ≠ 4 := by
  unfold wrd wd1
  by_cases c1 : st T L a 97 = true
  · rw [if_pos c1]
    show (if alk T L a [97, 100, 100] = [(97 : Int32), 100, 100].length then 1 else 0) ≠ 4
    split <;> decide
  rw [if_neg c1]
  by_cases c2 : st T L a 109 = true
  · rw [if_pos c2]
    show (if alk T L a [109, 111, 118, 101] = [(109 : Int32), 111, 118, 101].length then 2 else 0) ≠ 4
    split <;> decide
  rw [if_neg c2]
  by_cases c3 : st T L a 102 = true
  · rw [if_pos c3]
    by_cases c4 : st T L (a + 1) 108 = true
    · rw [if_pos c4]
      show (if alk T L a [102, 108, 97, 103] = [(102 : Int32), 108, 97, 103].length then 5 else 0) ≠ 4
      split <;> decide
    · rw [if_neg c4]
      show (if alk T L a [102, 105, 114, 101] = [(102 : Int32), 105, 114, 101].length then 3 else 0) ≠ 4
      split <;> decide
  rw [if_neg c3]
  by_cases c5 : st T L a 111 = true
  · rw [if_pos c5]
    have h0 : alk T L a [111, 114, 100, 101, 114] = 1 := by rw [alk9_1 c5, alk9_0 (hno a c5)]
    show (if alk T L a [111, 114, 100, 101, 114] = [(111 : Int32), 114, 100, 101, 114].length then 4 else 0) ≠ 4
    rw [h0]
    decide
  rw [if_neg c5]
  by_cases c6 : st T L a 119 = true
  · rw [if_pos c6]
    show (if alk T L a [119, 97, 105, 116] = [(119 : Int32), 97, 105, 116].length then 6 else 0) ≠ 4
    split <;> decide
  rw [if_neg c6]
  show 0 ≠ 4
  decide
theorem nm2_k {kd a p q : Nat} : (nm2 T L kd a p q).2.2.1 = kd := by
  unfold nm2
  split <;> rfl
theorem nm3_k {kd a p q r : Nat} : (nm3 T L kd a p q r).2.2.1 = kd := by
  unfold nm3
  split
  · rfl
  · exact nm2_k
theorem flg_k {a : Nat} : (flg T L a).2.2.1 = 5 := by
  unfold flg
  split
  · split
    · split <;> rfl
    · rfl
  · rfl
theorem wai_k {a : Nat} : (wai T L a).2.2.1 = 6 := by
  unfold wai
  split <;> rfl
def knd (c : Nat) : Prop := c = 1 ∨ c = 2 ∨ c = 3 ∨ c = 5 ∨ c = 6
theorem cmd_k (hno : ∀ a, st T L a 111 = true → ¬ st T L (a + 1) 114 = true) {a : Nat} (h : (cmd T L a).1 = true) : knd (cmd T L a).2.2.1 := by
  have h4 := wrd_no4 hno a
  unfold cmd at h ⊢
  unfold knd
  by_cases c1 : (wrd T L a).1 = 1
  · rw [if_pos c1, nm3_k]; exact Or.inl rfl
  rw [if_neg c1] at h ⊢
  by_cases c2 : (wrd T L a).1 = 2
  · rw [if_pos c2, nm2_k]; exact Or.inr (Or.inl rfl)
  rw [if_neg c2] at h ⊢
  by_cases c3 : (wrd T L a).1 = 3
  · rw [if_pos c3]; exact Or.inr (Or.inr (Or.inl rfl))
  rw [if_neg c3] at h ⊢
  rw [if_neg h4] at h ⊢
  by_cases c5 : (wrd T L a).1 = 5
  · rw [if_pos c5, flg_k]; exact Or.inr (Or.inr (Or.inr (Or.inl rfl)))
  rw [if_neg c5] at h ⊢
  by_cases c6 : (wrd T L a).1 = 6
  · rw [if_pos c6, wai_k]; exact Or.inr (Or.inr (Or.inr (Or.inr rfl)))
  rw [if_neg c6] at h
  cases h
theorem nxt_k (hno : ∀ a, st T L a 111 = true → ¬ st T L (a + 1) 114 = true) {p : Nat} (h : (nxt T L p).1 = true) : knd (nxt T L p).2.2.1 := by
  unfold nxt at h ⊢
  by_cases c0 : p = 0
  · rw [if_pos c0] at h ⊢
    exact cmd_k hno h
  rw [if_neg c0] at h ⊢
  by_cases c1 : st T L p 59 = true
  · rw [if_pos c1] at h ⊢
    exact cmd_k hno h
  rw [if_neg c1] at h
  cases h
end Tx9
def rdl2 (T : Nat → Int32) (L : Nat) : Nat → List (Nat × Int32 × Int32 × Int32) → Prop
  | _, [] => True
  | p, c :: l => (nxt T L p).1 = true ∧ (nxt T L p).2.2 = c ∧ rdl2 T L (nxt T L p).2.1 l
theorem rdl2_prs {T : Nat → Int32} {L : Nat} : ∀ (F p : Nat), (prs T L F p).1 = true → rdl2 T L p (prs T L F p).2.2 ∧ p + 3 * (prs T L F p).2.2.length ≤ L := by
  intro F
  induction F with
  | zero => intro p h; cases h
  | succ F ih =>
    intro p h
    unfold prs at h ⊢
    by_cases hk : (nxt T L p).1 = true
    · have hle := nxt_le hk
      rw [if_pos hk] at h ⊢
      by_cases c : (nxt T L p).2.1 = L
      · rw [if_pos c]
        refine ⟨⟨hk, rfl, trivial⟩, ?_⟩
        show p + 3 * 1 ≤ L
        omega
      · rw [if_neg c] at h ⊢
        obtain ⟨i1', i2⟩ := ih _ h
        refine ⟨⟨hk, rfl, i1'⟩, ?_⟩
        show p + 3 * ((prs T L F (nxt T L p).2.1).2.2.length + 1) ≤ L
        omega
    · rw [if_neg hk] at h
      cases h
/-- one command: a refusal, or what it does -/
theorem e_one {V : AN} {w kd : Nat} {τ : NS} {s : OS} {nb sv : NS} {rest : OS × OS × HS × OS} (hI : kI V) (htt : tot V < 2 ^ 31) (hwl : w ≤ V.2.1.length) (hc : zN V w τ) (hk : knd kd) (h2 : s.1 2 = nI kd) :
    (∃ d : Int32, d < 0 ∧ fX8_carryOut (τ, nb, sv, s, rest) = some (d, (τ, nb, sv, s, rest))) ∨ (∃ V' w' τ' a, fX8_carryOut (τ, nb, sv, s, rest) = some (nI a, (τ', nb, sv, s, rest)) ∧ a < 2 ^ 31 ∧ w' ≤ V'.2.1.length ∧ zN V' w' τ' ∧ kI V' ∧ tot V' = tot V) := by
  have hwv : wO V w := ⟨hI.1.1, hI.1.2.1, hI.1.2.2.1, hI.1.2.2.2.1, hwl, hI.1.2.2.2.2.2⟩
  have hgh := gh_ok hI.1
  have fin : ∀ {tbl : List (Nat × Int32)} {rc : Option (Int32 × NS)} {rm : Option (Int32 × OS)} {Po : AN → Nat → Prop}, (∀ q ∈ tbl, q.2 < 0) → Act V tbl τ (gh V) rc rm Po → (∀ V' a, wO V' 0 → Po V' a → kS V' ∧ tot V' = tot V) → fX8_carryOut (τ, nb, sv, s, rest) = gx_b rc (fun r => some (r.1, (r.2, nb, sv, s, rest))) → (∃ d : Int32, d < 0 ∧ fX8_carryOut (τ, nb, sv, s, rest) = some (d, (τ, nb, sv, s, rest))) ∨ (∃ V' w' τ' a, fX8_carryOut (τ, nb, sv, s, rest) = some (nI a, (τ', nb, sv, s, rest)) ∧ a < 2 ^ 31 ∧ w' ≤ V'.2.1.length ∧ zN V' w' τ' ∧ kI V' ∧ tot V' = tot V) := by
    intro tbl rc rm Po htb ha hPo f1
    rcases ha with ⟨q, hq, r1, -⟩ | ⟨V', w', τ', σ', a, r1, -, a1, a2, a3, -, a5, -, -, -, a9⟩
    · refine Or.inl ⟨q.2, htb q hq, ?_⟩
      rw [f1, r1]; rfl
    · obtain ⟨⟨s1, s2⟩, s3⟩ := hPo V' a a5 a9
      refine Or.inr ⟨V', w', τ', a, ?_, a1, a2, a3, ⟨a5, s1, s2⟩, s3⟩
      rw [f1, r1]; rfl
  have h2' : os_f s 2 = nI kd := h2
  have g7 : gx_in (nI kd) 7 := nI_in (by rcases hk with e | e | e | e | e <;> omega) (by decide)
  have fc : fX8_carryOut (τ, nb, sv, s, rest) = (if nI kd = (1 : Int32) then (gx_b (fX2_enlist τ (os_f s 3) (os_f s 4) (os_f s 5)) (fun r38 => (some (r38.1, (r38.2, nb, sv, s, rest))))) else (if nI kd = (2 : Int32) then (gx_b (fX2_move τ (os_f s 3) (os_f s 4)) (fun r73 => (some (r73.1, (r73.2, nb, sv, s, rest))))) else (if nI kd = (3 : Int32) then (gx_b (fX2_fire τ (os_f s 3)) (fun r101 => (some (r101.1, (r101.2, nb, sv, s, rest))))) else (if nI kd = (4 : Int32) then (gx_b (fX2_giveOrder τ (os_f s 3) (os_f s 4) (os_f s 5)) (fun r143 => (some (r143.1, (r143.2, nb, sv, s, rest))))) else (if nI kd = (5 : Int32) then (gx_b (fX0_assign τ.2.2.2 (os_f s 3) (os_f s 4) (os_f s 5)) (fun r188 => (some (r188.1, ((τ.1, (τ.2.1, (τ.2.2.1, r188.2))), nb, sv, s, rest))))) else (gx_b (fX2_letHoursPass τ (os_f s 3)) (fun r203 => (some (r203.1, (r203.2, nb, sv, s, rest)))))))))) := by
    unfold fX8_carryOut
    simp only [h2', gx_chk_t g7]
  rcases hk with rfl | rfl | rfl | rfl | rfl
  · refine fin (tbl := [(1, -1), (2, -2), (3, -3)]) (by decide) (a_add hwv hc hgh (os_f s 3) (os_f s 4) (os_f s 5)) (fun V' a hw' hp => ⟨s_add hI hp, (po_add hI.1 hw' hp).1⟩) ?_
    rw [fc, if_pos (by decide)]
  · refine fin (tbl := [(1, -1), (2, -2), (3, -4), (4, -3)]) (by decide) (a_move hwv hc hgh (os_f s 3) (os_f s 4)) (fun V' a hw' hp => ⟨s_move hI hp, (po_move hI.1 hw' hp).1⟩) ?_
    rw [fc, if_neg (by decide), if_pos (by decide)]
  · refine fin (tbl := [(1, -1), (2, -2)]) (by decide) (a_fire hwv hc hgh (os_f s 3)) (fun V' a hw' hp => ⟨s_fire hI hp, (po_fire hI.1 hp).1⟩) ?_
    rw [fc, if_neg (by decide), if_neg (by decide), if_pos (by decide)]
  · refine fin (tbl := [(1, -2), (2, -3)]) (by decide) (a_sign hwv hc hgh (os_f s 3) (os_f s 4) (os_f s 5)) (fun V' a hw' hp => ⟨s_book hI hp, po_book hp⟩) ?_
    rw [fc, if_neg (by decide), if_neg (by decide), if_neg (by decide), if_neg (by decide), if_pos (by decide), bk_b]
  · refine fin (tbl := [(1, -2)]) (by decide) (a_pass hwv hc hgh htt (os_f s 3)) (fun V' a hw' hp => ⟨s_pass hI hp, (po_pass hI.1 hp).1⟩) ?_
    rw [fc, if_neg (by decide), if_neg (by decide), if_neg (by decide), if_neg (by decide), if_neg (by decide)]
theorem e_alls {L : Nat} {t : OS} {nb sv : NS} {rest : OS × HS × OS} (hL : L ≤ 60) (ht : t.1 1 = nI L) (hno : ∀ a, st (t.2 0) L a 111 = true → ¬ st (t.2 0) L (a + 1) 114 = true) : ∀ (l : List (Nat × Int32 × Int32 × Int32)) (j p w fu : Nat) (V : AN) (τ : NS) (s : OS), kI V → zN V w τ → tot V < 2 ^ 31 → w ≤ V.2.1.length → rdl2 (t.2 0) L p l → s.1 1 = nI p → p ≤ L → j + l.length < 60 → l.length < fu →
    (∃ V' w' τ' s', fX8_carryOutAll_9 fu (τ, nb, sv, s, t, rest) (nI (j + l.length)) (nI j) = some (-1, (τ', nb, sv, s', t, rest)) ∧ w' ≤ V'.2.1.length ∧ zN V' w' τ' ∧ kI V' ∧ tot V' = tot V) ∨
    (∃ i τ' s', i < 60 ∧ fX8_carryOutAll_9 fu (τ, nb, sv, s, t, rest) (nI (j + l.length)) (nI j) = some (nI i, (τ', nb, sv, s', t, rest))) := by
  intro l
  induction l with
  | nil =>
    intro j p w fu V τ s hI hc hb hwl _ hs hp hj hf1
    obtain ⟨m1, rfl⟩ : ∃ m, fu = m + 1 := ⟨fu - 1, by simp only [List.length_nil] at hf1; omega⟩
    left
    refine ⟨V, w, τ, s, ?_, hwl, hc, hI, rfl⟩
    rw [fX8_carryOutAll_9_s]
    exact if_pos (Int32.le_refl (nI j))
  | cons c l ih =>
    intro j p w fu V τ s hI hc hb hwl hr hs hp hj hf1
    simp only [List.length_cons] at hj hf1 ⊢
    obtain ⟨m1, rfl⟩ : ∃ m, fu = m + 1 := ⟨fu - 1, by omega⟩
    obtain ⟨r1, r2, r3⟩ := hr
    obtain ⟨s1, q1, q2, q3⟩ := r_next hL ht hs (by omega)
    rw [r1] at q1
    obtain ⟨q4, -⟩ := q3 r1
    have hkd := nxt_k hno r1
    have hle := nxt_le r1
    have hno9 : ¬ nI (j + (l.length + 1)) ≤ nI j := by rw [nI_leI (by omega) (by omega)]; omega
    rw [fX8_carryOutAll_9_s, if_neg hno9, show fX5_readNext (s, t) = _ from q1, gx_b_some, if_neg (show ¬ (b1 true, (s1, t)).1 = 0 from one0)]
    rcases e_one (nb := nb) (sv := sv) (rest := (t, rest)) hI hb hwl hc hkd q4 with ⟨d, d1, d4⟩ | ⟨V', w', τ', a, d1, d3, d4, d5, d6, d8⟩
    · right
      refine ⟨j, τ, s1, by omega, ?_⟩
      rw [show fX8_carryOut (τ, nb, sv, (b1 true, s1, t).2.1, (b1 true, s1, t).2.2, rest) = _ from d4, gx_b_some, if_neg (q_neg d1)]
    · have hx := ih (j + 1) (nxt (t.2 0) L p).2.1 w' m1 V' τ' s1 d6 d5 (by omega) d4 r3 q2 (by omega) (by omega) (by omega)
      rw [show j + 1 + l.length = j + (l.length + 1) by omega] at hx
      rw [show fX8_carryOut (τ, nb, sv, (b1 true, s1, t).2.1, (b1 true, s1, t).2.2, rest) = _ from d1, gx_b_some, if_pos (nI_pos' d3), nI_1]
      rcases hx with ⟨V2, w2, τ2, s2, y1, y3, y4, y6, y7⟩ | ⟨i, τ2, s2, y1, y2⟩
      · left
        exact ⟨V2, w2, τ2, s2, y1, y3, y4, y6, by omega⟩
      · right
        exact ⟨i, τ2, s2, y1, y2⟩
theorem z_run {V : AN} {Hs : List AN} {T : List Nat} {k : CS} (h : KB V Hs T k) (hL : T.length ≤ 60) (hx : ∀ x ∈ T, x < 128) (hor : ∀ i, T[i]? = some 111 → ¬ T[i + 1]? = some 114) (htt : tot V < 2 ^ 31) : RsC V Hs (fL_runCommands k) (fun V' _ => tot V' = tot V) := by
  obtain ⟨⟨w, a0, a1⟩, hI, hH, ⟨hl8, hall⟩, ⟨x1, x2⟩⟩ := h
  obtain ⟨now, bef, sav, s, t, out, his, err⟩ := k
  have ht : t.1 1 = nI T.length := x1
  have hch : ∀ a c, c < 2 ^ 31 → st (t.2 0) T.length a (nI c) = true → T[a]? = some c := fun a c hc9 q => by
    obtain ⟨q1, q2⟩ := st_t.mp q
    obtain ⟨y, hy⟩ := lt_get (K := T) (k := a) q1
    have h1 := x2 a y hy
    have h2 : t.2 0 a = nI y := h1
    have hy9 := hx y (List.mem_of_getElem? hy)
    rw [h2] at q2
    rw [hy, (nI_eq (by omega) hc9).mp q2]
  have hno : ∀ a, st (t.2 0) T.length a 111 = true → ¬ st (t.2 0) T.length (a + 1) 114 = true := fun a q r => hor a (hch a 111 (by decide) q) (hch (a + 1) 114 (by decide) r)
  obtain ⟨n', c1, c2⟩ := c_copy bef hI.1 a1
  have hcl : fX6_clear t = some (os_sf t 1 0) := rfl
  obtain ⟨s2, e1, -⟩ := r_all (s := s) hL ht
  generalize hF : (100 : Nat) = F at e1
  by_cases hk : (prs (t.2 0) T.length F 0).1 = true
  · rw [if_pos hk] at e1
    obtain ⟨rl, rb⟩ := rdl2_prs F 0 hk
    generalize (prs (t.2 0) T.length F 0).2.2 = l at *
    have hx := e_alls (nb := n') (sv := sav) (rest := (out, his, err)) hL ht hno l 0 0 w 2000 V now (os_sf s2 1 0) hI a1 htt a0 rl sf_same (by omega) (by omega) (by omega)
    rw [Nat.zero_add, show nI 0 = (0 : Int32) from rfl] at hx
    have hca : ∀ (v : Int32), fX8_carryOutAll (now, (n', (sav, (s2, (t, (out, (his, err))))))) v = fX8_carryOutAll_9 2000 (now, n', sav, os_sf s2 1 0, t, out, his, err) v 0 := fun v => by
      unfold fX8_carryOutAll fX5_rewind
      rw [gx_b_some]
    rcases hx with ⟨V', w', τ', s', y1, y3, y4, y6, y7⟩ | ⟨i, τ', s', y0, y1⟩
    · obtain ⟨h', t1, t2⟩ := c_keep (h := his) hl8 hH hI.1 a0 c2
      refine Or.inr ⟨V', l.length, (τ', n', sav, s', os_sf t 1 0, out, h', err), ?_, by omega, ⟨⟨w', y3, y4⟩, y6, t2, ⟨?_, fun U hU => ?_⟩, ⟨sf_same, fun i x hi => by simp at hi⟩⟩, y7⟩
      · have hr : fX8_runCommands (now, bef, sav, s, t, out, his, err) = some (nI l.length, (τ', n', sav, s', os_sf t 1 0, out, h', err)) := by
          unfold fX8_runCommands
          rw [show fX2_copyFrom (bef, now) = _ from c1, gx_b_some, show fX5_readAll (s, t) = _ from e1, gx_b_some, if_neg (n_m1 (by omega)), hca, y1, gx_b_some, show fX6_clear t = _ from hcl, gx_b_some, if_pos rfl]
          unfold fX8_record
          rw [if_pos (nI_pos' (by omega))]
          unfold fX8_record_8
          rw [show fX1_keep (his, n') = _ from t1]
          rfl
        unfold fL_runCommands
        rw [hr, or_some]
      · rw [hA_len Hs V hl8]
        omega
      · rcases hA_in hU with q | q
        · exact hall U q
        · rw [q]; exact hI
    · obtain ⟨n2', d1, d2⟩ := c_copy τ' hI.1 c2
      refine Or.inl ⟨-76, (n2', n', sav, s', os_sf t 1 0, out, his, os_sf err 8 (nI i)), ?_, by decide, ⟨⟨w, a0, d2⟩, hI, hH, ⟨hl8, hall⟩, ⟨sf_same, fun i x hi => by simp at hi⟩⟩⟩
      have hr : fX8_runCommands (now, bef, sav, s, t, out, his, err) = none := by
        unfold fX8_runCommands
        rw [show fX2_copyFrom (bef, now) = _ from c1, gx_b_some, show fX5_readAll (s, t) = _ from e1, gx_b_some, if_neg (n_m1 (by omega)), hca, y1, gx_b_some, show fX6_clear t = _ from hcl, gx_b_some, if_neg (n_m1 (by omega)), show fX2_copyFrom (τ', n') = _ from d1]
        rfl
      have hq : xX8_runCommands (now, bef, sav, s, t, out, his, err) = some (4, (n2', n', sav, s', os_sf t 1 0, out, his, os_sf err 8 (nI i))) := by
        unfold xX8_runCommands
        rw [show fX2_copyFrom (bef, now) = _ from c1, gx_b_some, show fX5_readAll (s, t) = _ from e1, gx_b_some, if_neg (n_m1 (by omega)), hca, y1, gx_b_some, show fX6_clear t = _ from hcl, gx_b_some, if_neg (n_m1 (by omega)), show fX2_copyFrom (τ', n') = _ from d1]
        rfl
      unfold fL_runCommands
      rw [hr, or_none, hq]
      rfl
  · rw [if_neg hk] at e1
    refine Or.inl ⟨-78, (now, n', sav, s2, os_sf t 1 0, out, his, os_sf err 7 (s2.1 1)), ?_, by decide, ⟨⟨w, a0, a1⟩, hI, hH, ⟨hl8, hall⟩, ⟨sf_same, fun i x hi => by simp at hi⟩⟩⟩
    have hr : fX8_runCommands (now, bef, sav, s, t, out, his, err) = none := by
      unfold fX8_runCommands
      rw [show fX2_copyFrom (bef, now) = _ from c1, gx_b_some, show fX5_readAll (s, t) = _ from e1, gx_b_some, if_pos rfl, show fX6_clear t = _ from hcl]
      rfl
    have hq : xX8_runCommands (now, bef, sav, s, t, out, his, err) = some (2, (now, n', sav, s2, os_sf t 1 0, out, his, os_sf err 7 (s2.1 1))) := by
      unfold xX8_runCommands
      rw [show fX2_copyFrom (bef, now) = _ from c1, gx_b_some, show fX5_readAll (s, t) = _ from e1, gx_b_some, if_pos rfl, show fX6_clear t = _ from hcl]
      rfl
    unfold fL_runCommands
    rw [hr, or_none, hq]
    rfl
theorem z_feed {V : AN} {Hs : List AN} {T : List Nat} {k : CS} (h : KB V Hs T k) (hl : T.length < 60) {c : Nat} (hc : c < 128) : ∃ v k', fL_feed k (nI c) = some (v, k') ∧ KB V Hs (T ++ [c]) k' := by
  obtain ⟨a1, hI, hH, hh, ⟨x1, x2⟩⟩ := h
  have e1 : os_f k.2.2.2.2.1 1 = nI T.length := x1
  obtain ⟨s1, s2⟩ := chr_s c hc
  have e2 : os_f (os_sa k.2.2.2.2.1 0 T.length (nI c)) 1 + 1 = nI (T.length + 1) := by
    show k.2.2.2.2.1.1 1 + 1 = _
    rw [x1, nI_1]
  refine ⟨nI (T.length + 1), (k.1, (k.2.1, (k.2.2.1, (k.2.2.2.1, (os_sf (os_sa k.2.2.2.2.1 0 T.length (nI c)) 1 (nI (T.length + 1)), k.2.2.2.2.2))))), ?_, a1, hI, hH, hh, ⟨?_, fun i x hi => ?_⟩⟩
  · unfold fL_feed fX8_feed fX6_add
    rw [e1, if_pos (show nI T.length < (60 : Int32) from (nI_ltI (b := 60) (by omega) (by decide)).mpr hl), gx_chk_t (nI_in (by omega) (by decide)), nI_clamp (by omega), s1, e2, gx_b_some, if_neg one0, or_some]
    show some ((os_sf (os_sa k.2.2.2.2.1 0 T.length (nI c)) 1 (nI (T.length + 1))).1 1, _) = _
    rw [sf_same]
  · show (os_sf (os_sa k.2.2.2.2.1 0 T.length (nI c)) 1 (nI (T.length + 1))).1 1 = _
    rw [sf_same, List.length_append]
    rfl
  · show (os_sa k.2.2.2.2.1 0 T.length (nI c)).2 0 i = nI x
    by_cases q : i = T.length
    · rw [q, sa_same]
      rw [q, List.getElem?_append_right (Nat.le_refl _), Nat.sub_self] at hi
      have : c = x := Option.some.inj hi
      rw [this]
    · have hil := get_lt hi
      rw [List.length_append] at hil
      have hil2 : i < T.length + 1 := hil
      rw [List.getElem?_append_left (by omega)] at hi
      rw [sa_i q]
      exact x2 i x hi
theorem z_feeds {V : AN} {Hs : List AN} : ∀ (T2 T : List Nat) (k : CS), KB V Hs T k → T.length + T2.length ≤ 60 → (∀ x ∈ T2, x < 128) → ∃ k', fL_feeds k T2 = some k' ∧ KB V Hs (T ++ T2) k' := by
  intro T2
  induction T2 with
  | nil =>
    intro T k h _ _
    exact ⟨k, rfl, by rw [List.append_nil]; exact h⟩
  | cons c T2 ih =>
    intro T k h hl hx
    rw [List.length_cons] at hl
    obtain ⟨v, k1, f1, f2⟩ := z_feed h (by omega) (hx c List.mem_cons_self)
    obtain ⟨k', g1, g2⟩ := ih (T ++ [c]) k1 f2 (by rw [List.length_append]; show T.length + 1 + T2.length ≤ 60; omega) (fun x hx9 => hx x (List.mem_cons_of_mem _ hx9))
    refine ⟨k', ?_, by rw [List.append_assoc] at g2; exact g2⟩
    show gx_b (fL_feed k (nI c)) (fun r => fL_feeds r.2 T2) = _
    rw [f1, gx_b_some]
    exact g1
/-! the texts that the law gives -/
def nrP : List Nat → Prop
  | [] => True
  | a :: l => ¬ (a = 111 ∧ l.head? = some 114) ∧ nrP l
theorem nrP_app : ∀ (l1 l2 : List Nat), nrP l1 → nrP l2 → l2.head? ≠ some 114 → nrP (l1 ++ l2) := by
  intro l1
  induction l1 with
  | nil => intro l2 _ h _; exact h
  | cons a l1 ih =>
    intro l2 h1 h2 h3
    refine ⟨?_, ih l2 h1.2 h2 h3⟩
    rintro ⟨q1, q2⟩
    cases l1 with
    | nil => exact h3 q2
    | cons b l1 => exact h1.1 ⟨q1, q2⟩
theorem nrP_low : ∀ (l1 l2 : List Nat), (∀ x ∈ l1, x ≠ 111) → nrP l2 → nrP (l1 ++ l2) := by
  intro l1
  induction l1 with
  | nil => intro l2 _ h; exact h
  | cons a l1 ih =>
    intro l2 h1 h2
    exact ⟨fun q => h1 a List.mem_cons_self q.1, ih l2 (fun x hx => h1 x (List.mem_cons_of_mem _ hx)) h2⟩
theorem nrP_get : ∀ (l : List Nat) (i : Nat), nrP l → l[i]? = some 111 → ¬ l[i + 1]? = some 114 := by
  intro l
  induction l with
  | nil => intro i _ h; simp at h
  | cons a l ih =>
    intro i h1 h2 h3
    cases i with
    | zero =>
      rw [List.getElem?_cons_zero] at h2
      rw [List.getElem?_cons_succ, ← List.head?_eq_getElem?] at h3
      exact h1.1 ⟨Option.some.inj h2, h3⟩
    | succ i =>
      rw [List.getElem?_cons_succ] at h2 h3
      exact ih i h1.2 h2 h3
theorem txd_ok {n : Nat} (h : n < 1000) : (∀ x ∈ tx_d n, 48 ≤ x ∧ x < 58) ∧ (tx_d n).length ≤ 3 ∧ (tx_d n).head? ≠ some 114 := by
  unfold tx_d
  by_cases c1 : n < 10
  · rw [if_pos c1]
    refine ⟨fun x hx => ?_, by show 1 ≤ 3; omega, fun q => ?_⟩
    · rw [List.mem_singleton.mp hx]; omega
    · have := Option.some.inj q; omega
  rw [if_neg c1]
  by_cases c2 : n < 100
  · rw [if_pos c2]
    refine ⟨fun x hx => ?_, by show 2 ≤ 3; omega, fun q => ?_⟩
    · rcases List.mem_cons.mp hx with e | hx
      · omega
      · rw [List.mem_singleton.mp hx]; omega
    · have := Option.some.inj q; omega
  rw [if_neg c2]
  refine ⟨fun x hx => ?_, by show 3 ≤ 3; omega, fun q => ?_⟩
  · rcases List.mem_cons.mp hx with e | hx
    · omega
    · rcases List.mem_cons.mp hx with e | hx
      · omega
      · rw [List.mem_singleton.mp hx]; omega
  · have := Option.some.inj q; omega
theorem txd_n {n : Nat} (h : n < 1000) : nrP (tx_d n) := by
  have := nrP_low (tx_d n) [] (fun x hx => by have := (txd_ok h).1 x hx; omega) trivial
  rw [List.append_nil] at this
  exact this
/-- few characters, none strange, none of them the beginning of an order -/
def txO (l : List Nat) (m : Nat) : Prop := l.length ≤ m ∧ (∀ x ∈ l, x < 128) ∧ nrP l
theorem txO_app {l1 l2 : List Nat} {m1 m2 : Nat} (h1 : txO l1 m1) (h2 : txO l2 m2) (h3 : l2.head? ≠ some 114) : txO (l1 ++ l2) (m1 + m2) := by
  refine ⟨by rw [List.length_append]; exact Nat.add_le_add h1.1 h2.1, fun x hx => ?_, nrP_app _ _ h1.2.2 h2.2.2 h3⟩
  rcases List.mem_append.mp hx with q | q
  · exact h1.2.1 x q
  · exact h2.2.1 x q
theorem txO_d {n : Nat} (h : n < 1000) : txO (tx_d n) 3 := ⟨(txd_ok h).2.1, fun x hx => by have := (txd_ok h).1 x hx; omega, txd_n h⟩
theorem txb_ok {a x : Nat} (v : Nat) (ha : a < 100) : txO (tx_b a x v) 12 ∧ (tx_b a x v).head? ≠ some 114 := by
  unfold tx_b
  by_cases c1 : v % 4 = 0
  · rw [if_pos c1]
    exact ⟨⟨by decide, by decide, by simp [nrP]⟩, by decide⟩
  rw [if_neg c1]
  by_cases c2 : v % 4 = 1
  · rw [if_pos c2]
    refine ⟨txO_app (m1 := 9) (m2 := 3) ⟨by decide, by decide, by simp [nrP]⟩ (txO_d (by omega)) (txd_ok (by omega)).2.2, ?_⟩
    show some 59 ≠ some 114
    decide
  rw [if_neg c2]
  by_cases c3 : v % 4 = 2
  · rw [if_pos c3]
    refine ⟨txO_app (m1 := 10) (m2 := 2) (txO_app (m1 := 7) (m2 := 3) ⟨by decide, by decide, by simp [nrP]⟩ (txO_d (by omega)) (txd_ok (by omega)).2.2) ⟨by decide, by decide, by simp [nrP]⟩ (by decide), ?_⟩
    show some 59 ≠ some 114
    decide
  rw [if_neg c3]
  exact ⟨⟨by decide, by decide, by simp [nrP]⟩, by decide⟩
theorem txn_ok {a v x s : Nat} (ha : a < 100) (hs : s ≤ 101) : txO (tx_n a v x s) 40 := by
  obtain ⟨b1', b2⟩ := txb_ok (x := x) v ha
  unfold tx_n
  have h1 : txO ([102, 108, 97, 103, 32] ++ [97 + x % 26]) 6 := by
    refine ⟨Nat.le_refl 6, fun y hy => ?_, nrP_low _ _ (by decide) ⟨fun q => by simp at q, trivial⟩⟩
    rcases List.mem_append.mp hy with q | q
    · have h9 : ∀ z ∈ [102, 108, 97, 103, 32], z < 128 := by decide
      exact h9 y q
    · rw [List.mem_singleton.mp q]; omega
  have h2 : txO ([102, 108, 97, 103, 32] ++ [97 + x % 26] ++ [s]) 7 := txO_app (m2 := 1) h1 ⟨Nat.le_refl _, fun y hy => by rw [List.mem_singleton.mp hy]; omega, ⟨fun q => by simp at q, trivial⟩⟩ (fun q => by have := Option.some.inj q; omega)
  have h3 : txO ([102, 108, 97, 103, 32] ++ [97 + x % 26] ++ [s] ++ [32]) 8 := txO_app (m2 := 1) h2 ⟨by decide, by decide, by simp [nrP]⟩ (by decide)
  have h4 := txO_app h3 (txO_d (n := v % 100) (by omega)) (txd_ok (by omega)).2.2
  have h5 := txO_app h4 b1' b2
  exact ⟨Nat.le_trans h5.1 (by decide), h5.2.1, h5.2.2⟩
theorem z_runs {V : AN} {Hs : List AN} {k : CS} {a v x s : Nat} (h : KB V Hs [] k) (ha : a < 100) (hs : s ≤ 101) (htt : tot V < 2 ^ 31) : RsC V Hs (fL_runs k (tx_n a v x s)) (fun V' _ => tot V' = tot V) := by
  obtain ⟨t1, t2, t3⟩ := txn_ok (v := v) (x := x) ha hs
  obtain ⟨k', f1, f2⟩ := z_feeds (tx_n a v x s) [] k h (by show 0 + (tx_n a v x s).length ≤ 60; omega) t2
  unfold fL_runs
  rw [f1, gx_b_some]
  exact z_run f2 (by show (tx_n a v x s).length ≤ 60; omega) t2 (fun i => nrP_get _ i t3) htt
