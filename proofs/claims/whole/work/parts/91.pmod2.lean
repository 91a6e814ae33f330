/-! the reference's reading of one command, and of all -/
def cde (k : Nat) : Int32 := if k = 1 then 97 else if k = 2 then 109 else if k = 3 then 102 else if k = 4 then 111 else if k = 5 then 108 else 119
/-- the command told at n -/
def cdT (σ : OS) (n : Nat) (c : Nat × Int32 × Int32 × Int32) : Prop := (1 ≤ c.1 ∧ c.1 ≤ 6) ∧ σ.2 8 (4 * n) = cde c.1 ∧ σ.2 8 (4 * n + 1) = c.2.1 ∧ (c.1 = 1 ∨ c.1 = 2 ∨ c.1 = 4 ∨ c.1 = 5 → σ.2 8 (4 * n + 2) = c.2.2.1) ∧ (c.1 = 1 ∨ c.1 = 4 ∨ c.1 = 5 → σ.2 8 (4 * n + 3) = c.2.2.2)
def mP (T : Nat → Int32) (L n : Nat) (R : CR) (σ σ' : OS) : Prop := mR T L R.2.1 (!R.1) (n + 1) σ' ∧ (R.1 = true → cdT σ' n R.2.2) ∧ fR σ σ' ∧ ∀ i, i < 4 * n → σ'.2 8 i = σ.2 8 i
section Mread3
variable {T : Nat → Int32} {L a n : Nat} {σ : OS}
def cmk (T : Nat → Int32) (L k b : Nat) : CR := if k = 1 then nm3 T L 1 b 2 1 3 else if k = 2 then nm2 T L 2 b 2 2 else if k = 3 then nm1 T L 3 b 2 else if k = 4 then nm3 T L 4 b 2 2 3 else if k = 5 then flg T L b else if k = 6 then wai T L b else (false, b, 0, 0, 0, 0)
theorem cmd_k {k b : Nat} (h : wrd T L a = (k, b)) : cmd T L a = cmk T L k b := by
  unfold cmd
  rw [h]
  rfl
theorem cmd_w {kd : Nat} {w : List Int32} {R : CR} (hw : wrd T L a = wd1 T L a kd w) (hR : ∀ b, wrd T L a = (kd, b) → cmd T L a = if alk T L a w = w.length then R else (false, a + alk T L a w, 0, 0, 0, 0)) (hk : 1 ≤ kd) : cmd T L a = if alk T L a w = w.length then R else (false, a + alk T L a w, 0, 0, 0, 0) := by
  by_cases c : alk T L a w = w.length
  · exact hR _ (hw.trans (by unfold wd1; rw [if_pos c]))
  · rw [if_neg c]
    have e : wrd T L a = (0, a + alk T L a w) := hw.trans (by unfold wd1; rw [if_neg c])
    exact (cmd_k e).trans rfl
theorem m_fin {w : List Int32} {R : CR} {σ' : OS} {kd : Nat} {d : Nat} (hkd : 1 ≤ kd ∧ kd ≤ 6) (hwl : w.length = d) (hRk : R.2.2.1 = kd) (hn : n < 60) (h : mW T L n (decide (alk T L a w < d)) (a + alk T L a w) R (os_sa σ 8 (4 * n) (cde kd)) σ') : ∃ σ2, fX9_readsOne_171 σ' = some σ2 ∧ mP T L n (if alk T L a w = w.length then R else (false, a + alk T L a w, 0, 0, 0, 0)) σ σ2 := by
  have hl := (alk_le (T := T) (L := L) w a).1
  have hf : ∀ {σ'' : OS}, fR (os_sa σ 8 (4 * n) (cde kd)) σ'' → fR σ (os_sf σ'' 17 (nI (n + 1))) := fun q => ⟨fun k k1 k2 k3 => (sf_k k2).trans (q.1 k k1 k2 k3), fun q' hq' => (q.2 q' hq').trans (sa_j hq')⟩
  have hi : ∀ {σ'' : OS}, (∀ i, i ≤ 4 * n → σ''.2 8 i = (os_sa σ 8 (4 * n) (cde kd)).2 8 i) → ∀ i, i < 4 * n → (os_sf σ'' 17 (nI (n + 1))).2 8 i = σ.2 8 i := fun q i hi => (q i (by omega)).trans (sa_i (by omega))
  have hr : ∀ {σ'' : OS} {p : Nat} {b : Bool}, mR T L p b n σ'' → fX9_readsOne_171 σ'' = some (os_sf σ'' 17 (nI (n + 1))) ∧ mR T L p b (n + 1) (os_sf σ'' 17 (nI (n + 1))) := fun {σ'' p b} q => ⟨by unfold fX9_readsOne_171; rw [show os_f σ'' 17 = nI n from q.2.2.1, nI_1], ⟨(sf_k (by decide)).trans q.1, (sf_k (by decide)).trans q.2.1, sf_same, (sf_k (by decide)).trans q.2.2.2.1, q.2.2.2.2⟩⟩
  by_cases c : alk T L a w = w.length
  · rw [decide_eq_false (by omega)] at h
    obtain ⟨q1, q2, q3, q4⟩ := h.2 rfl
    obtain ⟨r1, r2⟩ := hr q1
    rw [if_pos c]
    refine ⟨_, r1, r2, fun hk => ?_, hf q3, hi q4⟩
    obtain ⟨k1, k2, k3⟩ := q2 hk
    refine ⟨by rw [hRk]; exact hkd, ?_, k1, k2, k3⟩
    rw [hRk]
    exact (q4 _ (Nat.le_refl _)).trans sa_same
  · rw [decide_eq_true (by omega)] at h
    obtain ⟨q1, q3, q4⟩ := h.1 rfl
    obtain ⟨r1, r2⟩ := hr q1
    rw [if_neg c]
    exact ⟨_, r1, r2, (fun hk => by cases hk), hf q3, hi q4⟩
theorem m_one26 (hL : L ≤ 60) (hn : n < 60) (ha : a ≤ 61) (hno : st T L a 102 = true → ¬ st T L (a + 1) 108 = true) (h : mR T L a false n σ) : ∃ σ', fX9_readsOne_26 σ (if a < L then T a else -1) = some σ' ∧ mP T L n (cmd T L a) σ σ' := by
  have e : (4 : Int32) * os_f σ 17 = nI (4 * n) := by
    rw [show os_f σ 17 = nI n from h.2.2.1, show (4 : Int32) = nI 4 from rfl, n_mul]
  have g : gx_in (nI (4 * n)) 240 := nI_in (by omega) (by decide)
  have ec : (nI (4 * n)).toNatClampNeg = 4 * n := nI_clamp (by omega)
  unfold fX9_readsOne_26
  simp only [e, gx_chk_t g, ec]
  by_cases c1 : st T L a 97 = true
  · have ev : (if a < L then T a else -1) = 97 := (st_if (by decide)).mpr c1
    have hw : wrd T L a = wd1 T L a 1 [97, 100, 100] := if_pos c1
    have hc : cmd T L a = _ := cmd_w (R := nm3 T L 1 (a + alk T L a [97, 100, 100]) 2 1 3) hw (fun b hb => by
      have h2 : b = a + alk T L a [97, 100, 100] ∧ alk T L a [97, 100, 100] = [(97 : Int32), 100, 100].length := by
        rw [hw] at hb
        unfold wd1 at hb
        by_cases c : alk T L a [97, 100, 100] = [(97 : Int32), 100, 100].length
        · exact ⟨(congrArg Prod.snd hb).symm, c⟩
        · rw [if_neg c] at hb; cases congrArg Prod.fst hb
      rw [if_pos h2.2, ← h2.1]
      exact (cmd_k hb).trans rfl) (by decide)
    rw [ev, if_pos rfl, hc]
    obtain ⟨σ1, q1, q2⟩ := m_wn3 hL hn (wi := 2) (p := 2) (q := 1) (r := 3) (kd := 1) (by omega) (by omega) (by omega) (by omega) (by omega) (by omega) (by omega) (by omega) (mR_8 h)
    rw [show fX9_numbers (os_sa σ 8 (4 * n) 97) 2 (2 : Int32) (1 : Int32) (3 : Int32) = _ from q1, gx_b_some]
    exact m_fin (kd := 1) (d := 3) (by omega) rfl nm3_kd hn q2
  rw [if_neg (fun q => c1 ((st_if (by decide)).mp q))]
  by_cases c3 : st T L a 102 = true
  · have ev : (if a < L then T a else -1) = 102 := (st_if (by decide)).mpr c3
    have hw : wrd T L a = wd1 T L a 3 [102, 105, 114, 101] := by
      unfold wrd
      rw [if_neg c1, if_neg (st_no c3 (by decide)), if_pos c3, if_neg (hno c3)]
    have hc : cmd T L a = _ := cmd_w (R := nm1 T L 3 (a + alk T L a [102, 105, 114, 101]) 2) hw (fun b hb => by
      have h2 : b = a + alk T L a [102, 105, 114, 101] ∧ alk T L a [102, 105, 114, 101] = [(102 : Int32), 105, 114, 101].length := by
        rw [hw] at hb
        unfold wd1 at hb
        by_cases c : alk T L a [102, 105, 114, 101] = [(102 : Int32), 105, 114, 101].length
        · exact ⟨(congrArg Prod.snd hb).symm, c⟩
        · rw [if_neg c] at hb; cases congrArg Prod.fst hb
      rw [if_pos h2.2, ← h2.1]
      exact (cmd_k hb).trans rfl) (by decide)
    rw [ev, if_pos rfl, hc]
    obtain ⟨σ1, q1, q2⟩ := m_wn1 hL hn (wi := 4) (p := 2) (by omega) (by omega) (by omega) (mR_8 h)
    rw [show fX9_numbers (os_sa σ 8 (4 * n) 102) 4 (2 : Int32) (0 : Int32) (0 : Int32) = _ from q1, gx_b_some]
    exact m_fin (kd := 3) (d := 4) (by omega) rfl rfl hn q2
  rw [if_neg (fun q => c3 ((st_if (by decide)).mp q))]
  by_cases c2 : st T L a 109 = true
  · have ev : (if a < L then T a else -1) = 109 := (st_if (by decide)).mpr c2
    have hw : wrd T L a = wd1 T L a 2 [109, 111, 118, 101] := by
      unfold wrd
      rw [if_neg c1, if_pos c2]
    have hc : cmd T L a = _ := cmd_w (R := nm2 T L 2 (a + alk T L a [109, 111, 118, 101]) 2 2) hw (fun b hb => by
      have h2 : b = a + alk T L a [109, 111, 118, 101] ∧ alk T L a [109, 111, 118, 101] = [(109 : Int32), 111, 118, 101].length := by
        rw [hw] at hb
        unfold wd1 at hb
        by_cases c : alk T L a [109, 111, 118, 101] = [(109 : Int32), 111, 118, 101].length
        · exact ⟨(congrArg Prod.snd hb).symm, c⟩
        · rw [if_neg c] at hb; cases congrArg Prod.fst hb
      rw [if_pos h2.2, ← h2.1]
      exact (cmd_k hb).trans rfl) (by decide)
    rw [ev, if_pos rfl, hc]
    obtain ⟨σ1, q1, q2⟩ := m_wn2 hL hn (wi := 3) (p := 2) (q := 2) (by omega) (by omega) (by omega) (by omega) (by omega) (mR_8 h)
    rw [show fX9_numbers (os_sa σ 8 (4 * n) 109) 3 (2 : Int32) (2 : Int32) (0 : Int32) = _ from q1, gx_b_some]
    exact m_fin (kd := 2) (d := 4) (by omega) rfl nm2_kd hn q2
  rw [if_neg (fun q => c2 ((st_if (by decide)).mp q))]
  by_cases c4 : st T L a 111 = true
  · have ev : (if a < L then T a else -1) = 111 := (st_if (by decide)).mpr c4
    have hw : wrd T L a = wd1 T L a 4 [111, 114, 100, 101, 114] := by
      unfold wrd
      rw [if_neg c1, if_neg c2, if_neg c3, if_pos c4]
    have hc : cmd T L a = _ := cmd_w (R := nm3 T L 4 (a + alk T L a [111, 114, 100, 101, 114]) 2 2 3) hw (fun b hb => by
      have h2 : b = a + alk T L a [111, 114, 100, 101, 114] ∧ alk T L a [111, 114, 100, 101, 114] = [(111 : Int32), 114, 100, 101, 114].length := by
        rw [hw] at hb
        unfold wd1 at hb
        by_cases c : alk T L a [111, 114, 100, 101, 114] = [(111 : Int32), 114, 100, 101, 114].length
        · exact ⟨(congrArg Prod.snd hb).symm, c⟩
        · rw [if_neg c] at hb; cases congrArg Prod.fst hb
      rw [if_pos h2.2, ← h2.1]
      exact (cmd_k hb).trans rfl) (by decide)
    rw [ev, if_pos rfl, hc]
    obtain ⟨σ1, q1, q2⟩ := m_wn3 hL hn (wi := 5) (p := 2) (q := 2) (r := 3) (kd := 4) (by omega) (by omega) (by omega) (by omega) (by omega) (by omega) (by omega) (by omega) (mR_8 h)
    rw [show fX9_numbers (os_sa σ 8 (4 * n) 111) 5 (2 : Int32) (2 : Int32) (3 : Int32) = _ from q1, gx_b_some]
    exact m_fin (kd := 4) (d := 5) (by omega) rfl nm3_kd hn q2
  rw [if_neg (fun q => c4 ((st_if (by decide)).mp q))]
  by_cases c6 : st T L a 119 = true
  · have ev : (if a < L then T a else -1) = 119 := (st_if (by decide)).mpr c6
    have hw : wrd T L a = wd1 T L a 6 [119, 97, 105, 116] := by
      unfold wrd
      rw [if_neg c1, if_neg c2, if_neg c3, if_neg c4, if_pos c6]
    have hc : cmd T L a = _ := cmd_w (R := wai T L (a + alk T L a [119, 97, 105, 116])) hw (fun b hb => by
      have h2 : b = a + alk T L a [119, 97, 105, 116] ∧ alk T L a [119, 97, 105, 116] = [(119 : Int32), 97, 105, 116].length := by
        rw [hw] at hb
        unfold wd1 at hb
        by_cases c : alk T L a [119, 97, 105, 116] = [(119 : Int32), 97, 105, 116].length
        · exact ⟨(congrArg Prod.snd hb).symm, c⟩
        · rw [if_neg c] at hb; cases congrArg Prod.fst hb
      rw [if_pos h2.2, ← h2.1]
      exact (cmd_k hb).trans rfl) (by decide)
    rw [ev, if_pos rfl, hc]
    obtain ⟨σ1, q1, q2⟩ := m_wait hL hn (by omega) (mR_8 (k := 4 * n) (v := 119) h)
    rw [q1, gx_b_some]
    exact m_fin (kd := 6) (d := 4) (by omega) rfl (by unfold wai; split <;> rfl) hn q2
  rw [if_neg (fun q => c6 ((st_if (by decide)).mp q)), gx_chk_t (Or.inr trivial)]
  have hc : cmd T L a = (false, a, 0, 0, 0, 0) := by
    have hw : wrd T L a = (0, a) := by
      unfold wrd
      rw [if_neg c1, if_neg c2, if_neg c3, if_neg c4, if_neg c6]
    exact (cmd_k hw).trans rfl
  rw [hc]
  unfold fX9_readsOne_171
  have hm := mR_18 (c := true) (v := 1) rfl (mR_8 (k := 4 * n) (v := if a < L then T a else -1) h)
  rw [show os_f (os_sf (os_sa σ 8 (4 * n) (if a < L then T a else -1)) 18 1) 17 = nI n from hm.2.2.1, nI_1]
  exact ⟨_, rfl, ⟨(sf_k (by decide)).trans hm.1, (sf_k (by decide)).trans hm.2.1, sf_same, (sf_k (by decide)).trans hm.2.2.2.1, hm.2.2.2.2⟩, (fun q => by cases q), ⟨fun k k1 k2 k3 => (sf_k k2).trans ((sf_k k3).trans rfl), fun q hq => sa_j hq⟩, fun i hi => (show (os_sa σ 8 (4 * n) (if a < L then T a else -1)).2 8 i = σ.2 8 i from sa_i (by omega))⟩
theorem m_rdone (hL : L ≤ 60) (hn : n < 60) (ha : a ≤ 61) (h : mR T L a false n σ) : ∃ σ', fX9_readsOne σ = some σ' ∧ mP T L n (cmd T L a) σ σ' := by
  unfold fX9_readsOne
  rw [m_here0 hL h (by omega), gx_b_some]
  by_cases c3 : st T L a 102 = true
  · have ev : (if a < L then T a else -1) = 102 := (st_if (by decide)).mpr c3
    rw [if_pos ev, show fX9_here σ (1 : Int32) = _ from m_here hL h (j := 1) (by omega), gx_b_some]
    by_cases c5 : st T L (a + 1) 108 = true
    · have e : (4 : Int32) * os_f σ 17 = nI (4 * n) := by
        rw [show os_f σ 17 = nI n from h.2.2.1, show (4 : Int32) = nI 4 from rfl, n_mul]
      have g : gx_in (nI (4 * n)) 240 := nI_in (by omega) (by decide)
      have ec : (nI (4 * n)).toNatClampNeg = 4 * n := nI_clamp (by omega)
      have hw : wrd T L a = wd1 T L a 5 [102, 108, 97, 103] := by
        unfold wrd
        rw [if_neg (st_no c3 (by decide)), if_neg (st_no c3 (by decide)), if_pos c3, if_pos c5]
      have hc : cmd T L a = _ := cmd_w (R := flg T L (a + alk T L a [102, 108, 97, 103])) hw (fun b hb => by
        have h2 : b = a + alk T L a [102, 108, 97, 103] ∧ alk T L a [102, 108, 97, 103] = [(102 : Int32), 108, 97, 103].length := by
          rw [hw] at hb
          unfold wd1 at hb
          by_cases c : alk T L a [102, 108, 97, 103] = [(102 : Int32), 108, 97, 103].length
          · exact ⟨(congrArg Prod.snd hb).symm, c⟩
          · rw [if_neg c] at hb; cases congrArg Prod.fst hb
        rw [if_pos h2.2, ← h2.1]
        exact (cmd_k hb).trans rfl) (by decide)
      rw [if_pos ((st_if (by decide)).mpr c5), ev, if_neg (by decide), if_pos rfl, hc]
      simp only [e, gx_chk_t g, ec]
      obtain ⟨σ1, q1, q2⟩ := m_flag hL hn (by omega) (mR_8 (k := 4 * n) (v := 108) h)
      rw [q1, gx_b_some]
      exact m_fin (kd := 5) (d := 4) (by omega) rfl (by unfold flg; (repeat' split) <;> rfl) hn q2
    · rw [if_neg (fun q => c5 ((st_if (by decide)).mp q))]
      exact m_one26 hL hn ha (fun _ => c5) h
  · rw [if_neg (fun q => c3 ((st_if (by decide)).mp q))]
    exact m_one26 hL hn ha (fun q => absurd q c3) h
/-- the list told -/
def lsT (σ : OS) : Nat → List (Nat × Int32 × Int32 × Int32) → Prop
  | _, [] => True
  | n, c :: l => cdT σ n c ∧ lsT σ (n + 1) l
theorem cdT_c {σ σ' : OS} {n : Nat} {c : Nat × Int32 × Int32 × Int32} (h : cdT σ n c) (g : ∀ i, i < 4 * (n + 1) → σ'.2 8 i = σ.2 8 i) : cdT σ' n c := by
  obtain ⟨h0, h1, h2, h3, h4⟩ := h
  exact ⟨h0, (g _ (by omega)).trans h1, (g _ (by omega)).trans h2, fun q => (g _ (by omega)).trans (h3 q), fun q => (g _ (by omega)).trans (h4 q)⟩
def prq (T : Nat → Int32) (L F p : Nat) : Bool × Nat × List (Nat × Int32 × Int32 × Int32) := if p = L then (true, L, []) else prs T L F p
theorem prs_t {F p : Nat} (h : (nxt T L p).1 = true) : prs T L (F + 1) p = ((prq T L F (nxt T L p).2.1).1, (prq T L F (nxt T L p).2.1).2.1, (nxt T L p).2.2 :: (prq T L F (nxt T L p).2.1).2.2) := by
  unfold prq
  by_cases c : (nxt T L p).2.1 = L
  · rw [if_pos c]; exact (if_pos h).trans (if_pos c)
  · rw [if_neg c]; exact (if_pos h).trans (if_neg c)
theorem prs_f {F p : Nat} (h : (nxt T L p).1 = false) : prs T L (F + 1) p = (false, (nxt T L p).2.1, []) := if_neg (by rw [h]; decide)
/-- what the loop of reading leaves, n commands told before -/
def mL (x : Option (Int32 × OS)) (n : Nat) (r : Bool × Nat × List (Nat × Int32 × Int32 × Int32)) (σ : OS) : Prop := (r.1 = true → x = fX9_runCommands_104 2000 σ 0 ∧ σ.1 17 = nI (n + r.2.2.length) ∧ lsT σ n r.2.2) ∧ (r.1 = false → x = fX9_runCommands_88 σ ∧ σ.1 15 = nI r.2.1)
theorem m_70 {R : CR} {fu : Nat} {p : Nat} (h : mR T L p true n σ) : fX9_runCommands_36 (fu + 1) σ = fX9_runCommands_88 σ := by
  rw [fX9_runCommands_36_s, if_neg (show ¬ os_f σ 18 = 0 from by rw [show os_f σ 18 = 1 from h.2.2.2.1]; decide)]
  unfold fX9_runCommands_70
  rw [if_neg (show ¬ os_f σ 18 = 0 from by rw [show os_f σ 18 = 1 from h.2.2.2.1]; decide)]
theorem m_loop (hL : L ≤ 60) : ∀ (F p n fu : Nat) (σ : OS), L - p < F → F + 1 < fu → 1 ≤ p → p ≤ L → 3 * n ≤ p → mR T L p false n σ → ∃ σ', mL (fX9_runCommands_36 fu σ) n (prq T L F p) σ' ∧ fR σ σ' ∧ ∀ i, i < 4 * n → σ'.2 8 i = σ.2 8 i := by
  intro F
  induction F with
  | zero => intro p n fu σ h; omega
  | succ F ih =>
    intro p n fu σ hF hfu hp hpl hn h
    obtain ⟨m, rfl⟩ : ∃ m, fu = m + 1 := ⟨fu - 1, by omega⟩
    rw [fX9_runCommands_36_s, if_pos (show os_f σ 18 = 0 from h.2.2.2.1), m_here0 hL h (by omega), gx_b_some]
    by_cases c : p = L
    · have e : prq T L (F + 1) p = (true, L, []) := if_pos c
      rw [e, if_neg (show ¬ (if p < L then T p else -1) = (59 : Int32) by rw [if_neg (by omega)]; decide)]
      unfold fX9_runCommands_70
      rw [if_pos (show os_f σ 18 = 0 from h.2.2.2.1), show os_f σ 16 = nI L from h.2.1, show os_f σ 15 = nI p from h.1, n_le (by omega) (by omega), if_pos (by omega)]
      exact ⟨σ, ⟨fun _ => ⟨rfl, h.2.2.1, trivial⟩, fun x => by cases x⟩, fR_rf, fun _ _ => rfl⟩
    · have e : prq T L (F + 1) p = prs T L (F + 1) p := if_neg c
      rw [e]
      by_cases c2 : st T L p 59 = true
      · have en : nxt T L p = cmd T L (p + 1) := (if_neg (show ¬ p = 0 by omega)).trans (if_pos c2)
        have hm : mR T L (p + 1) false n (os_sf σ 15 (nI (p + 1))) := mR_15 h
        obtain ⟨σ1, q1, q2, q3, q4, q5⟩ := m_rdone hL (by omega) (by omega) hm
        have f0 : fR σ (os_sf σ 15 (nI (p + 1))) := ⟨fun k k1 _ _ => sf_k k1, fun _ _ => rfl⟩
        rw [if_pos ((st_if (by decide)).mpr c2), show os_f σ 15 + (1 : Int32) = nI (p + 1) from by rw [show os_f σ 15 = nI p from h.1, nI_1], q1, gx_b_some]
        rcases b_cases (nxt T L p).1 with hk | hk
        · have hle := nxt_le hk
          rw [prs_t hk]
          rw [← en] at q2 q3
          rw [hk] at q2
          obtain ⟨σ2, r1, r2, r3⟩ := ih (nxt T L p).2.1 (n + 1) m σ1 (by omega) (by omega) (by omega) hle.2 (by omega) q2
          refine ⟨σ2, ⟨fun hx => ?_, fun hx => r1.2 hx⟩, fR_tr (fR_tr f0 q4) r2, fun i hi => (r3 i (by omega)).trans (q5 i hi)⟩
          obtain ⟨s1, s2, s3⟩ := r1.1 hx
          refine ⟨s1, ?_, cdT_c (q3 hk) r3, s3⟩
          rw [s2, List.length_cons]
          congr 1
          omega
        · rw [prs_f hk]
          rw [← en] at q2
          rw [hk] at q2
          obtain ⟨m', rfl⟩ : ∃ m', m = m' + 1 := ⟨m - 1, by omega⟩
          rw [m_70 (R := cmd T L 0) q2]
          exact ⟨σ1, ⟨(fun x => by cases x), fun _ => ⟨rfl, q2.1⟩⟩, fR_tr f0 q4, q5⟩
      · have en : nxt T L p = (false, p, 0, 0, 0, 0) := (if_neg (show ¬ p = 0 by omega)).trans (if_neg c2)
        have hk : (nxt T L p).1 = false := by rw [en]
        rw [prs_f hk, en, if_neg (fun q => c2 ((st_if (by decide)).mp q))]
        unfold fX9_runCommands_70
        rw [if_pos (show os_f σ 18 = 0 from h.2.2.2.1), show os_f σ 16 = nI L from h.2.1, show os_f σ 15 = nI p from h.1, n_le (by omega) (by omega), if_neg (by omega)]
        exact ⟨σ, ⟨(fun x => by cases x), fun _ => ⟨rfl, h.1⟩⟩, fR_rf, fun _ _ => rfl⟩
theorem m_reads (hL : L ≤ 60) {F : Nat} (hF : L + 1 < F) (hF2 : F ≤ 1000) (h : mR T L 0 false 0 σ) : ∃ σ', mL (gx_b (fX9_readsOne σ) (fun r => fX9_runCommands_36 2000 r)) 0 (prs T L F 0) σ' ∧ fR σ σ' := by
  obtain ⟨F, rfl⟩ : ∃ F', F = F' + 1 := ⟨F - 1, by omega⟩
  have en : nxt T L 0 = cmd T L 0 := if_pos rfl
  obtain ⟨σ1, q1, q2, q3, q4, q5⟩ := m_rdone hL (by omega) (by omega) h
  rw [q1, gx_b_some]
  rw [← en] at q2 q3
  rcases b_cases (nxt T L 0).1 with hk | hk
  · have hle := nxt_le hk
    rw [prs_t hk]
    rw [hk] at q2
    obtain ⟨σ2, r1, r2, r3⟩ := m_loop hL F (nxt T L 0).2.1 1 2000 σ1 (by omega) (by omega) (by omega) hle.2 (by omega) q2
    refine ⟨σ2, ⟨fun hx => ?_, fun hx => r1.2 hx⟩, fR_tr q4 r2⟩
    obtain ⟨s1, s2, s3⟩ := r1.1 hx
    refine ⟨s1, ?_, cdT_c (q3 hk) r3, s3⟩
    rw [s2, List.length_cons]
    congr 1
    omega
  · rw [prs_f hk]
    rw [hk] at q2
    obtain ⟨y, hy⟩ : ∃ y, y + 1 = 2000 := ⟨1999, rfl⟩
    rw [← hy, m_70 (R := cmd T L 0) q2]
    exact ⟨σ1, ⟨(fun x => by cases x), fun _ => ⟨rfl, q2.1⟩⟩, q4⟩
end Mread3
