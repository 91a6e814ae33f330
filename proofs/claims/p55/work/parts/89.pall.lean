/-! the class's reading of a whole text; the reference's words, numbers, letters -/
section Call
variable {L : Nat} {s t : OS}
theorem flg_le {T : Nat → Int32} {a : Nat} : a ≤ (flg T L a).2.1 ∧ ((flg T L a).2.1 ≤ L ∨ (flg T L a).2.1 = a) := by
  unfold flg
  by_cases c : st T L a 32 = true
  · have h0 := (st_t.mp c).1
    rw [if_pos c]
    by_cases c1 : btw T L (a + 1) 97 122 = true
    · have h1 := (btw_t.mp c1).1
      rw [if_pos c1]
      by_cases c2 : btw T L (a + 2) 97 122 = true
      · have h2 := (btw_t.mp c2).1
        have h3 := num_le (T := T) (L := L) (a := a + 3) (most := 2) (by omega)
        rw [if_pos c2]
        simp only []
        omega
      · rw [if_neg c2]
        simp only []
        omega
    · rw [if_neg c1]
      simp only []
      omega
  · rw [if_neg c]
    exact ⟨Nat.le_refl _, Or.inr rfl⟩
theorem wai_le {T : Nat → Int32} {a : Nat} : a ≤ (wai T L a).2.1 ∧ ((wai T L a).2.1 ≤ L ∨ (wai T L a).2.1 = a) := by
  unfold wai
  have h3 := num_le (T := T) (L := L) (a := a) (most := 2) (by omega)
  split
  · exact ⟨h3.1, h3.2.1⟩
  · exact ⟨Nat.le_refl _, Or.inr rfl⟩
theorem cmd_le {T : Nat → Int32} {a : Nat} : ((cmd T L a).2.1 ≤ L ∨ (cmd T L a).2.1 = a) ∧ ((cmd T L a).1 = true → a + 3 ≤ (cmd T L a).2.1) := by
  obtain ⟨k1, k2, k3⟩ := wrd_le (T := T) (L := L) (a := a)
  unfold cmd
  generalize (wrd T L a).1 = kd at *
  generalize (wrd T L a).2 = b at *
  by_cases e1 : kd = 1
  · have h := nm3_le (T := T) (L := L) (a := b) (kd := 1) (p := 2) (q := 1) (r := 3) (by omega) (by omega) (by omega)
    have := k3 (by omega)
    rw [if_pos e1]; omega
  rw [if_neg e1]
  by_cases e2 : kd = 2
  · have h := nm2_le (T := T) (L := L) (a := b) (kd := 2) (p := 2) (q := 2) (by omega) (by omega)
    have := k3 (by omega)
    rw [if_pos e2]; omega
  rw [if_neg e2]
  by_cases e3 : kd = 3
  · have h := num_le (T := T) (L := L) (a := b) (most := 2) (by omega)
    have := k3 (by omega)
    rw [if_pos e3]
    show ((num T L b 2).2.1 ≤ L ∨ (num T L b 2).2.1 = a) ∧ (_ → a + 3 ≤ (num T L b 2).2.1)
    omega
  rw [if_neg e3]
  by_cases e4 : kd = 4
  · have h := nm3_le (T := T) (L := L) (a := b) (kd := 4) (p := 2) (q := 2) (r := 3) (by omega) (by omega) (by omega)
    have := k3 (by omega)
    rw [if_pos e4]; omega
  rw [if_neg e4]
  by_cases e5 : kd = 5
  · have h := flg_le (T := T) (L := L) (a := b)
    have := k3 (by omega)
    rw [if_pos e5]; omega
  rw [if_neg e5]
  by_cases e6 : kd = 6
  · have h := wai_le (T := T) (L := L) (a := b)
    have := k3 (by omega)
    rw [if_pos e6]; omega
  rw [if_neg e6]
  exact ⟨k2, fun q => by cases q⟩
theorem nxt_le {T : Nat → Int32} {p : Nat} (h : (nxt T L p).1 = true) : p + 3 ≤ (nxt T L p).2.1 ∧ (nxt T L p).2.1 ≤ L := by
  unfold nxt at h ⊢
  by_cases c : p = 0
  · rw [if_pos c] at h ⊢
    obtain ⟨h1, h2⟩ := cmd_le (T := T) (L := L) (a := 0)
    have := h2 h
    omega
  · rw [if_neg c] at h ⊢
    by_cases c2 : st T L p 59 = true
    · rw [if_pos c2] at h ⊢
      obtain ⟨h1, h2⟩ := cmd_le (T := T) (L := L) (a := p + 1)
      have := h2 h
      omega
    · rw [if_neg c2] at h
      cases h
theorem r_next (hL : L ≤ 60) (ht : t.1 1 = nI L) {p : Nat} (hs : s.1 1 = nI p) (hp : p ≤ 60) : ∃ s', fX5_readNext (s, t) = some (b1 (nxt (t.2 0) L p).1, (s', t)) ∧ gC (nxt (t.2 0) L p) s' := by
  unfold fX5_readNext nxt
  rw [show os_f (s, t).1 1 = nI p from hs]
  by_cases c : p = 0
  · rw [if_pos (show nI p ≤ 0 from by rw [c]; decide), if_pos c]
    rw [c] at hs
    exact r_next18 hL ht hs (by omega)
  · obtain ⟨s1, r1, r2, r3⟩ := r_acc hL ht hs (by omega) (59 : Int32)
    rw [if_neg (nI_nle (by omega) (by omega)), if_neg c, r1, gx_b_some]
    by_cases c2 : st (t.2 0) L p 59 = true
    · rw [if_pos c2] at r2
      rw [c2, show b1 true = 1 from rfl, if_neg one0, if_pos rfl]
      exact r_next18 hL ht r2 (by omega)
    · have cf : st (t.2 0) L p 59 = false := by
        cases h : st (t.2 0) L p 59 with
        | false => rfl
        | true => exact absurd h c2
      rw [if_neg c2] at r2
      rw [cf, show b1 false = 0 from rfl, if_pos rfl, if_neg (show ¬ (false = true) by decide)]
      exact ⟨s1, rfl, r2, fun q => by cases q⟩
theorem r_all6 (hL : L ≤ 60) (ht : t.1 1 = nI L) : ∀ (F p v fu : Nat) (s : OS), L - p < F → F ≤ fu → s.1 1 = nI p → p ≤ L → 2 * (v - 1) ≤ p → 1 ≤ v → ∃ s', fX5_readAll_6 fu (s, t) (nI v) = some (if (prs (t.2 0) L F p).1 = true then nI (v - 1 + (prs (t.2 0) L F p).2.2.length) else -1, (s', t)) ∧ s'.1 1 = nI (prs (t.2 0) L F p).2.1 := by
  intro F
  induction F with
  | zero => intro p v fu s h; omega
  | succ F ih =>
    intro p v fu s hF hfu hs hp hv h1
    obtain ⟨m, rfl⟩ : ∃ m, fu = m + 1 := ⟨fu - 1, by omega⟩
    obtain ⟨s1, r1, r2, r3⟩ := r_next hL ht hs (by omega)
    rw [fX5_readAll_6_s, if_neg (show ¬ (60 : Int32) < nI v from nI_nlt (a := 60) (b := v) (by omega) (by omega)), r1, gx_b_some]
    cases h : (nxt (t.2 0) L p).1 with
    | false =>
      have e : prs (t.2 0) L (F + 1) p = (false, (nxt (t.2 0) L p).2.1, []) := if_neg (by rw [h]; decide)
      rw [e, show b1 false = 0 from rfl, if_pos rfl]
      exact ⟨s1, rfl, r2⟩
    | true =>
      have hle := nxt_le h
      have e2 : os_f (((1 : Int32), (s1, t)).2.1) 1 = nI (nxt (t.2 0) L p).2.1 := r2
      have e3 : os_f (((1 : Int32), (s1, t)).2.2) 1 = nI L := ht
      rw [show b1 true = 1 from rfl, if_neg one0, e2, e3, n_eq (by omega) (by omega)]
      by_cases c : (nxt (t.2 0) L p).2.1 = L
      · have e : prs (t.2 0) L (F + 1) p = (true, L, [(nxt (t.2 0) L p).2.2]) := (if_pos h).trans (if_pos c)
        rw [if_pos c, e]
        refine ⟨s1, ?_, ?_⟩
        · rw [if_pos rfl, show v - 1 + [(nxt (t.2 0) L p).2.2].length = v from by simp; omega]
        · rw [r2, c]
      · have e : prs (t.2 0) L (F + 1) p = ((prs (t.2 0) L F (nxt (t.2 0) L p).2.1).1, (prs (t.2 0) L F (nxt (t.2 0) L p).2.1).2.1, (nxt (t.2 0) L p).2.2 :: (prs (t.2 0) L F (nxt (t.2 0) L p).2.1).2.2) := (if_pos h).trans (if_neg c)
        obtain ⟨s', q1, q2⟩ := ih (nxt (t.2 0) L p).2.1 (v + 1) m s1 (by omega) (by omega) r2 hle.2 (by omega) (by omega)
        rw [if_neg c, e, nI_1, q1]
        refine ⟨s', ?_, q2⟩
        simp only [List.length_cons]
        rw [show v + 1 - 1 + (prs (t.2 0) L F (nxt (t.2 0) L p).2.1).2.2.length = v - 1 + ((prs (t.2 0) L F (nxt (t.2 0) L p).2.1).2.2.length + 1) by omega]
theorem r_allF (hL : L ≤ 60) (ht : t.1 1 = nI L) {F : Nat} (hF : L < F) (hF2 : F ≤ 2000) : ∃ s', fX5_readAll (s, t) = some (if (prs (t.2 0) L F 0).1 = true then nI (prs (t.2 0) L F 0).2.2.length else -1, (s', t)) ∧ s'.1 1 = nI (prs (t.2 0) L F 0).2.1 := by
  obtain ⟨s', q1, q2⟩ := r_all6 hL ht F 0 1 2000 (os_sf s 1 0) (by omega) hF2 sf_same (by omega) (by omega) (by omega)
  rw [show 1 - 1 + (prs (t.2 0) L F 0).2.2.length = (prs (t.2 0) L F 0).2.2.length by omega] at q1
  refine ⟨s', ?_, q2⟩
  rw [← q1]
  unfold fX5_readAll fX5_rewind
  rw [gx_b_some, show nI 1 = (1 : Int32) from rfl]
theorem r_all (hL : L ≤ 60) (ht : t.1 1 = nI L) : ∃ s', fX5_readAll (s, t) = some (if (prs (t.2 0) L 100 0).1 = true then nI (prs (t.2 0) L 100 0).2.2.length else -1, (s', t)) ∧ s'.1 1 = nI (prs (t.2 0) L 100 0).2.1 := r_allF hL ht (by omega) (by omega)
end Call
/-! the reference's reader -/
def mR (T : Nat → Int32) (L a : Nat) (b : Bool) (n : Nat) (σ : OS) : Prop := σ.1 15 = nI a ∧ σ.1 16 = nI L ∧ σ.1 17 = nI n ∧ σ.1 18 = b1 b ∧ ∀ i, i < L → σ.2 7 i = T i
def fR (σ σ' : OS) : Prop := (∀ k, k ≠ 15 → k ≠ 17 → k ≠ 18 → σ'.1 k = σ.1 k) ∧ ∀ q, q ≠ 8 → σ'.2 q = σ.2 q
theorem fR_rf {σ : OS} : fR σ σ := ⟨fun _ _ _ _ => rfl, fun _ _ => rfl⟩
theorem fR_tr {a b c : OS} (h : fR a b) (g : fR b c) : fR a c := ⟨fun k h1 h2 h3 => (g.1 k h1 h2 h3).trans (h.1 k h1 h2 h3), fun q hq => (g.2 q hq).trans (h.2 q hq)⟩
/-- the row of what was told, but for some places -/
def fT (p : Nat → Prop) (σ σ' : OS) : Prop := ∀ i, ¬ p i → σ'.2 8 i = σ.2 8 i
section Mread
variable {T : Nat → Int32} {L a n : Nat} {b : Bool} {σ : OS}
theorem m_here (hL : L ≤ 60) (h : mR T L a b n σ) {j : Nat} (ha : a + j < 2 ^ 31) : fX9_here σ (nI j) = some (if a + j < L then T (a + j) else -1) := by
  obtain ⟨h1, h2, h3, h4, h5⟩ := h
  unfold fX9_here
  rw [show os_f σ 16 = nI L from h2, show os_f σ 15 = nI a from h1, nI_add, n_le (by omega) ha]
  by_cases c : a + j < L
  · rw [if_neg (by omega), if_pos c, gx_chk_t (nI_in (by omega) (by decide)), nI_clamp ha, show os_a σ 7 (a + j) = T (a + j) from h5 _ c]
  · rw [if_pos (by omega), if_neg c]
theorem m_here0 (hL : L ≤ 60) (h : mR T L a b n σ) (ha : a < 2 ^ 31) : fX9_here σ (0 : Int32) = some (if a < L then T a else -1) := m_here hL h (j := 0) ha
theorem st_if {i : Nat} {c : Int32} (hc : c ≠ -1) : ((if i < L then T i else -1) = c) ↔ st T L i c = true := by
  rw [st_t]
  by_cases h : i < L
  · rw [if_pos h]; exact ⟨fun q => ⟨h, q⟩, fun q => q.2⟩
  · rw [if_neg h]; exact ⟨fun q => absurd q.symm hc, fun q => absurd q.1 h⟩
theorem chr_no1 : ∀ i, i < 8 → ∀ j, j < gx_len i → gx_chr i j ≠ -1 := by decide
theorem tx_le : ∀ i, i < 8 → gx_len i ≤ 5 := by decide
theorem m_says2 (hL : L ≤ 60) {wi : Nat} (hw : wi < 8) : ∀ (d j fu a : Nat) (σ : OS), j + d = gx_len wi → d < fu → a + d ≤ 200 → mR T L a false n σ → ∃ σ', fX9_says_2 fu σ wi (nI j) = some σ' ∧ mR T L (a + alk T L a ((gx_tx.getD wi []).drop j)) (decide (alk T L a ((gx_tx.getD wi []).drop j) < d)) n σ' ∧ σ'.2 = σ.2 ∧ ∀ k, k ≠ 15 → k ≠ 18 → σ'.1 k = σ.1 k := by
  intro d
  induction d with
  | zero =>
    intro j fu a σ hj hfu ha h
    obtain ⟨m, rfl⟩ : ∃ m, fu = m + 1 := ⟨fu - 1, by omega⟩
    have hl := tx_le wi hw
    rw [fX9_says_2_s, gx_chk_t hw, n_le (by omega) (by omega), if_pos (by omega), List.drop_of_length_le (show (gx_tx.getD wi []).length ≤ j from by show gx_len wi ≤ j; omega)]
    exact ⟨σ, rfl, h, rfl, fun _ _ _ => rfl⟩
  | succ d ih =>
    intro j fu a σ hj hfu ha h
    obtain ⟨m, rfl⟩ : ∃ m, fu = m + 1 := ⟨fu - 1, by omega⟩
    have hl := tx_le wi hw
    have hjl : j < (gx_tx.getD wi []).length := by show j < gx_len wi; omega
    have hch : gx_chr wi j = (gx_tx.getD wi [])[j] := by
      unfold gx_chr
      rw [List.getD_eq_getElem?_getD, List.getElem?_eq_getElem hjl]
      rfl
    have hne := chr_no1 wi hw j (by omega)
    have g8 : wi < 8 ∧ gx_in (nI j) (gx_len wi) := ⟨hw, nI_in (by omega) (by omega)⟩
    have ej : (nI j).toNatClampNeg = j := nI_clamp (by omega)
    have hh := h
    obtain ⟨h1, h2, h3, h4, h5⟩ := h
    have e0 : os_f (os_sf σ 18 0) 18 = 0 := sf_same
    have e1 : os_f (os_sf σ 18 1) 18 = 1 := sf_same
    rw [fX9_says_2_s, gx_chk_t hw, n_le (by omega) (by omega), if_neg (by omega), if_pos (show os_f σ 18 = 0 from h4), m_here0 hL hh (by omega), gx_b_some, gx_chk_t g8, ej, e0, e1, if_pos rfl, if_neg one0, gx_chk_t (Or.inl rfl), gx_chk_t (Or.inr rfl), nI_1, List.drop_eq_getElem_cons hjl, ← hch]
    by_cases c : st T L a (gx_chr wi j) = true
    · have e5 : os_f (os_sf σ 18 0) 15 + 1 = nI (a + 1) := by
        show (os_sf σ 18 0).1 15 + 1 = _
        rw [sf_k (by decide), h1, nI_1]
      have hm1 : mR T L (a + 1) false n (os_sf (os_sf σ 18 0) 15 (nI (a + 1))) := ⟨sf_same, by rw [sf_k (by decide), sf_k (by decide)]; exact h2, by rw [sf_k (by decide), sf_k (by decide)]; exact h3, by rw [sf_k (by decide)]; exact sf_same, h5⟩
      obtain ⟨σ', q1, q2, q3, q4⟩ := ih (j + 1) m (a + 1) _ (by omega) (by omega) (by omega) hm1
      have ea : alk T L a (gx_chr wi j :: (gx_tx.getD wi []).drop (j + 1)) = 1 + alk T L (a + 1) ((gx_tx.getD wi []).drop (j + 1)) := if_pos c
      rw [if_pos ((st_if hne).mpr c), e5, q1, ea]
      refine ⟨σ', rfl, ?_, q3, fun k k1 k2 => (q4 k k1 k2).trans ((sf_k k1).trans (sf_k k2))⟩
      rw [show a + (1 + alk T L (a + 1) ((gx_tx.getD wi []).drop (j + 1))) = a + 1 + alk T L (a + 1) ((gx_tx.getD wi []).drop (j + 1)) by omega, show decide (1 + alk T L (a + 1) ((gx_tx.getD wi []).drop (j + 1)) < d + 1) = decide (alk T L (a + 1) ((gx_tx.getD wi []).drop (j + 1)) < d) from by
        by_cases q : alk T L (a + 1) ((gx_tx.getD wi []).drop (j + 1)) < d
        · rw [decide_eq_true q, decide_eq_true (by omega)]
        · rw [decide_eq_false q, decide_eq_false (by omega)]]
      exact q2
    · have ea : alk T L a (gx_chr wi j :: (gx_tx.getD wi []).drop (j + 1)) = 0 := if_neg c
      have e5 : os_f (os_sf σ 18 1) 15 + 0 = nI a := by
        show (os_sf σ 18 1).1 15 + 0 = _
        rw [sf_k (by decide), h1, Int32.add_zero]
      obtain ⟨m', rfl⟩ : ∃ m', m = m' + 1 := ⟨m - 1, by omega⟩
      have e6 : os_f (os_sf (os_sf σ 18 1) 15 (nI a)) 18 = 1 := (sf_k (by decide)).trans sf_same
      rw [if_neg (fun q => c ((st_if hne).mp q)), e5, fX9_says_2_s, gx_chk_t hw, e6, if_neg one0, ite_self, ea, Nat.add_zero, decide_eq_true (Nat.succ_pos d)]
      exact ⟨_, rfl, ⟨sf_same, by rw [sf_k (by decide), sf_k (by decide)]; exact h2, by rw [sf_k (by decide), sf_k (by decide)]; exact h3, by rw [sf_k (by decide)]; exact sf_same, h5⟩, rfl, fun k k1 k2 => (sf_k k1).trans (sf_k k2)⟩
theorem m_says (hL : L ≤ 60) {wi : Nat} (hw : wi < 8) (ha : a ≤ 100) (h : mR T L a false n σ) : ∃ σ', fX9_says σ wi = some σ' ∧ mR T L (a + alk T L a (gx_tx.getD wi [])) (decide (alk T L a (gx_tx.getD wi []) < gx_len wi)) n σ' ∧ σ'.2 = σ.2 ∧ ∀ k, k ≠ 15 → k ≠ 18 → σ'.1 k = σ.1 k := by
  have hl := tx_le wi hw
  obtain ⟨σ', q1, q2, q3, q4⟩ := m_says2 hL hw (gx_len wi) 0 2000 a σ (by omega) (by omega) (by omega) h
  rw [List.drop_zero] at q2
  exact ⟨σ', q1, q2, q3, q4⟩
theorem m_saysw {wi : Nat} (hw : wi < 8) (h : mR T L a true n σ) : fX9_says σ wi = some σ := by
  unfold fX9_says
  rw [fX9_says_2_s, gx_chk_t hw, show os_f σ 18 = 1 from h.2.2.2.1, if_neg one0, ite_self]
theorem mR_8 {k : Nat} {v : Int32} (h : mR T L a b n σ) : mR T L a b n (os_sa σ 8 k v) := ⟨h.1, h.2.1, h.2.2.1, h.2.2.2.1, fun i hi => by rw [sa_j (by decide)]; exact h.2.2.2.2 i hi⟩
theorem mR_18 {c : Bool} {v : Int32} (hv : v = b1 c) (h : mR T L a b n σ) : mR T L a c n (os_sf σ 18 v) := ⟨by rw [sf_k (by decide)]; exact h.1, by rw [sf_k (by decide)]; exact h.2.1, by rw [sf_k (by decide)]; exact h.2.2.1, by rw [sf_same, hv], h.2.2.2.2⟩
theorem mR_15 {a' : Nat} (h : mR T L a b n σ) : mR T L a' b n (os_sf σ 15 (nI a')) := ⟨sf_same, by rw [sf_k (by decide)]; exact h.2.1, by rw [sf_k (by decide)]; exact h.2.2.1, by rw [sf_k (by decide)]; exact h.2.2.2.1, h.2.2.2.2⟩
theorem in_btw {i : Nat} {lo hi : Nat} (hlo : lo < 2 ^ 31) (hhi : hi < 2 ^ 31) : fX9_in (if i < L then T i else -1) (nI lo) (nI hi) = some (b1 (btw T L i (nI lo) (nI hi))) := by
  unfold fX9_in
  by_cases h : i < L
  · rw [if_pos h]
    by_cases c1 : T i < nI lo
    · rw [if_pos c1, show btw T L i (nI lo) (nI hi) = false from decide_eq_false (fun q => q.2.1 c1)]; rfl
    · rw [if_neg c1]
      by_cases c2 : nI hi < T i
      · rw [if_pos c2, show btw T L i (nI lo) (nI hi) = false from decide_eq_false (fun q => Int32.not_lt.mpr q.2.2 c2)]; rfl
      · rw [if_neg c2, show btw T L i (nI lo) (nI hi) = true from decide_eq_true ⟨h, c1, Int32.not_lt.mp c2⟩]; rfl
  · rw [if_neg h, show btw T L i (nI lo) (nI hi) = false from decide_eq_false (fun q => h q.1), if_pos]
    · rfl
    · rw [Int32.lt_iff_toInt_lt, nI_toInt hlo, show ((-1 : Int32).toInt) = -1 by decide]
      omega
theorem m_n69 (hn : n < 60) {k : Nat} (hk : k < 4) (h : mR T L a b n σ) (v d : Nat) (hd : d < 2 ^ 31) : fX9_number_69 σ (nI k) (nI v) (nI d) = some (os_sa (os_sf σ 18 (b1 (b || decide (d = 0)))) 8 (4 * n + k) (nI v)) := by
  have e : ∀ x, ((4 : Int32) * (os_f (os_sf σ 18 x) 17)) + nI k = nI (4 * n + k) := fun x => by
    rw [show os_f (os_sf σ 18 x) 17 = nI n from (sf_k (by decide)).trans h.2.2.1, show (4 : Int32) = nI 4 from rfl, n_mul, nI_add]
  have g : gx_in (nI (4 * n + k)) 240 := nI_in (by omega) (by decide)
  have ec : (nI (4 * n + k)).toNatClampNeg = 4 * n + k := nI_clamp (by omega)
  unfold fX9_number_69
  simp only [e, gx_chk_t g, ec]
  cases b with
  | true =>
    rw [if_neg (show ¬ os_f σ 18 = 0 from by rw [show os_f σ 18 = 1 from h.2.2.2.1]; decide), gx_chk_t (Or.inr trivial)]
    rfl
  | false =>
    rw [if_pos (show os_f σ 18 = 0 from h.2.2.2.1)]
    by_cases c : d = 0
    · rw [if_pos (show nI d = 0 from by rw [c]; rfl), gx_chk_t (Or.inr trivial), decide_eq_true c]
      rfl
    · rw [if_neg (nI_ne0 (by omega) hd), gx_chk_t (Or.inl trivial), decide_eq_false c]
      rfl
theorem m_n11 (hL : L ≤ 60) {most : Nat} (hmost : most ≤ 3) (k : Int32) : ∀ (m d a v fu : Nat) (σ : OS), d + m = most → m < fu → mR T L a false n σ → a + m ≤ 200 → ∃ σ', fX9_number_11 fu σ k (nI most) (nI v) (nI d) = fX9_number_69 σ' k (nI (dig T L m a v).2) (nI (d + ((dig T L m a v).1 - a))) ∧ mR T L (dig T L m a v).1 false n σ' ∧ σ'.2 = σ.2 ∧ ∀ q, q ≠ 15 → σ'.1 q = σ.1 q := by
  intro m
  induction m with
  | zero =>
    intro d a v fu σ hd hfu h ha
    obtain ⟨f, rfl⟩ : ∃ f, fu = f + 1 := ⟨fu - 1, by omega⟩
    rw [fX9_number_11_s, if_pos (show os_f σ 18 = 0 from h.2.2.2.1), n_le (by omega) (by omega), if_pos (by omega)]
    refine ⟨σ, ?_, h, rfl, fun _ _ => rfl⟩
    show _ = fX9_number_69 σ k (nI v) (nI (d + (a - a)))
    rw [Nat.sub_self, Nat.add_zero]
  | succ m ih =>
    intro d a v fu σ hd hfu h ha
    obtain ⟨f, rfl⟩ : ∃ f, fu = f + 1 := ⟨fu - 1, by omega⟩
    have hb : fX9_in (if a < L then T a else -1) (48 : Int32) (57 : Int32) = some (b1 (btw T L a 48 57)) := in_btw (lo := 48) (hi := 57) (by decide) (by decide)
    rw [fX9_number_11_s, if_pos (show os_f σ 18 = 0 from h.2.2.2.1), n_le (by omega) (by omega), if_neg (by omega), m_here0 hL h (by omega), gx_b_some, hb, gx_b_some]
    by_cases c : btw T L a 48 57 = true
    · obtain ⟨x, x1, x2, x3⟩ := btw_n (b := 48) (c := 57) (by decide) (by decide) c
      have hal := (btw_t.mp c).1
      have e : dig T L (m + 1) a v = dig T L m (a + 1) (10 * v + (T a).toNatClampNeg - 48) := if_pos c
      have hx : (T a).toNatClampNeg = x := by rw [x3]; exact nI_clamp (by omega)
      have hle := (dig_le (T := T) (L := L) m (a + 1) (10 * v + x - 48)).1
      obtain ⟨σ', q1, q2, q3, q4⟩ := ih (d + 1) (a + 1) (10 * v + x - 48) f (os_sf σ 15 (nI (a + 1))) (by omega) (by omega) (mR_15 h) (by omega)
      rw [c, show b1 true = 1 from rfl, if_neg one0, gx_b_some, if_pos hal, x3, show os_f σ 15 = nI a from h.1, nI_1, nI_1, show (((10 : Int32) * nI v) + nI x) - (48 : Int32) = nI (10 * v + x - 48) from by
        rw [show (10 : Int32) = nI 10 from rfl, show (48 : Int32) = nI 48 from rfl, n_mul, nI_add, n_sub (by omega)], q1, e, hx]
      refine ⟨σ', ?_, q2, q3, fun q hq => (q4 q hq).trans (sf_k hq)⟩
      rw [show d + 1 + ((dig T L m (a + 1) (10 * v + x - 48)).1 - (a + 1)) = d + ((dig T L m (a + 1) (10 * v + x - 48)).1 - a) by omega]
    · have cf : btw T L a 48 57 = false := by
        cases h9 : btw T L a 48 57 with
        | false => rfl
        | true => exact absurd h9 c
      have e : dig T L (m + 1) a v = (a, v) := if_neg c
      rw [cf, show b1 false = 0 from rfl, if_pos rfl, e]
      refine ⟨σ, ?_, h, rfl, fun _ _ => rfl⟩
      show _ = fX9_number_69 σ k (nI v) (nI (d + (a - a)))
      rw [Nat.sub_self, Nat.add_zero]
theorem m_num (hL : L ≤ 60) (hn : n < 60) {k most : Nat} (hk : k < 4) (hmost : most ≤ 3) (ha : a ≤ 100) (h : mR T L a false n σ) : ∃ σ', fX9_number σ (nI k) (nI most) = some σ' ∧ mR T L (num T L a most).2.1 (!(num T L a most).1) n σ' ∧ ((num T L a most).1 = true → σ'.2 8 (4 * n + k) = nI (num T L a most).2.2) ∧ fR σ σ' ∧ fT (fun i => i = 4 * n + k) σ σ' := by
  obtain ⟨σ1, r1, r2, r3, r4⟩ := m_says (wi := 0) hL (by omega) ha h
  rw [show gx_tx.getD 0 [] = [32] from rfl, show gx_len 0 = 1 from rfl] at r2
  have f1 : fR σ σ1 := ⟨fun q k1 _ k3 => r4 q k1 k3, fun q _ => by rw [r3]⟩
  have f2 : ∀ i, σ1.2 8 i = σ.2 8 i := fun i => by rw [r3]
  unfold fX9_number num
  rw [r1, gx_b_some]
  by_cases c : st T L a 32 = true
  · have ea : alk T L a [32] = 1 := if_pos c
    rw [ea, show decide (1 < 1) = false from rfl] at r2
    obtain ⟨σ2, q1, q2, q3, q4⟩ := m_n11 hL hmost (nI k) most 0 (a + 1) 0 2000 σ1 (by omega) (by omega) r2 (by omega)
    have hle := dig_le (T := T) (L := L) most (a + 1) 0
    have hz : fX9_number_69 σ2 (nI k) (nI (dig T L most (a + 1) 0).2) (nI (0 + ((dig T L most (a + 1) 0).1 - (a + 1)))) = _ := m_n69 hn hk q2 _ _ (by omega)
    rw [if_pos c, show fX9_number_11 2000 σ1 (nI k) (nI most) (0 : Int32) (0 : Int32) = _ from q1, hz]
    refine ⟨_, rfl, ?_, fun _ => ?_, ⟨fun q k1 k2 k3 => (sf_k k3).trans ((q4 q k1).trans (r4 q k1 k3)), fun q hq => ?_⟩, fun i hi => ?_⟩
    · by_cases c2 : (dig T L most (a + 1) 0).1 = a + 1
      · rw [if_pos c2, decide_eq_true (show 0 + ((dig T L most (a + 1) 0).1 - (a + 1)) = 0 by omega)]
        rw [c2] at q2
        exact mR_8 (mR_18 rfl q2)
      · rw [if_neg c2, decide_eq_false (show ¬ 0 + ((dig T L most (a + 1) 0).1 - (a + 1)) = 0 by omega)]
        exact mR_8 (mR_18 rfl q2)
    · rename_i hok
      by_cases c2 : (dig T L most (a + 1) 0).1 = a + 1
      · rw [if_pos c2] at hok; cases hok
      · rw [if_neg c2, sa_same]
    · rw [sa_j hq, sf_a, q3, r3]
    · rw [sa_i hi, sf_a, q3, r3]
  · have ea : alk T L a [32] = 0 := if_neg c
    rw [ea, show decide (0 < 1) = true from rfl, Nat.add_zero] at r2
    have hz : fX9_number_69 σ1 (nI k) (nI 0) (nI 0) = _ := m_n69 hn hk r2 0 0 (by omega)
    rw [if_neg c, fX9_number_11_s, if_neg (show ¬ os_f σ1 18 = 0 from by rw [show os_f σ1 18 = 1 from r2.2.2.2.1]; decide), show fX9_number_69 σ1 (nI k) (0 : Int32) (0 : Int32) = _ from hz]
    refine ⟨_, rfl, mR_8 (mR_18 rfl r2), (fun q => by cases q), ⟨fun q k1 k2 k3 => (sf_k k3).trans (r4 q k1 k3), fun q hq => ?_⟩, fun i hi => ?_⟩
    · rw [sa_j hq, sf_a, r3]
    · rw [sa_i hi, sf_a, r3]
theorem m_numw (hn : n < 60) {k most : Nat} (hk : k < 4) (h : mR T L a true n σ) : ∃ σ', fX9_number σ (nI k) (nI most) = some σ' ∧ mR T L a true n σ' ∧ fR σ σ' ∧ fT (fun i => i = 4 * n + k) σ σ' := by
  have hz : fX9_number_69 σ (nI k) (nI 0) (nI 0) = _ := m_n69 hn hk h 0 0 (by omega)
  unfold fX9_number
  rw [m_saysw (by omega) h, gx_b_some, fX9_number_11_s, if_neg (show ¬ os_f σ 18 = 0 from by rw [show os_f σ 18 = 1 from h.2.2.2.1]; decide), show fX9_number_69 σ (nI k) (0 : Int32) (0 : Int32) = _ from hz]
  refine ⟨_, rfl, mR_8 (mR_18 rfl h), ⟨fun q k1 k2 k3 => sf_k k3, fun q hq => sa_j hq⟩, fun i hi => sa_i hi⟩
theorem m_letter (hL : L ≤ 60) (hn : n < 60) {k : Nat} (hk : k < 4) (ha : a ≤ 100) (h : mR T L a b n σ) : ∃ σ', fX9_letter σ (nI k) = some σ' ∧ mR T L (if b = false ∧ btw T L a 97 122 = true then a + 1 else a) (b || !(btw T L a 97 122)) n σ' ∧ (b = false ∧ btw T L a 97 122 = true → σ'.2 8 (4 * n + k) = T a) ∧ fR σ σ' ∧ fT (fun i => i = 4 * n + k) σ σ' := by
  have e : ∀ x, ((4 : Int32) * (os_f (os_sf σ 18 x) 17)) + nI k = nI (4 * n + k) := fun x => by
    rw [show os_f (os_sf σ 18 x) 17 = nI n from (sf_k (by decide)).trans h.2.2.1, show (4 : Int32) = nI 4 from rfl, n_mul, nI_add]
  have g : gx_in (nI (4 * n + k)) 240 := nI_in (by omega) (by decide)
  have ec : (nI (4 * n + k)).toNatClampNeg = 4 * n + k := nI_clamp (by omega)
  have e18 : ∀ x, os_f (os_sf σ 18 x) 18 = x := fun x => sf_same
  have e18' : ∀ x y, os_f (os_sa (os_sf σ 18 x) 8 (4 * n + k) y) 18 = x := fun x y => (show (os_sf σ 18 x).1 18 = x from sf_same)
  have e15 : ∀ x y, os_f (os_sa (os_sf σ 18 x) 8 (4 * n + k) y) 15 = nI a := fun x y => (show (os_sf σ 18 x).1 15 = nI a from (sf_k (by decide)).trans h.1)
  have fr : ∀ x y z, fR σ (os_sf (os_sa (os_sf σ 18 x) 8 (4 * n + k) y) 15 z) := fun x y z => ⟨fun q k1 k2 k3 => (sf_k k1).trans (show (os_sf σ 18 x).1 q = _ from sf_k k3), fun q hq => sa_j hq⟩
  have ft : ∀ x y z, fT (fun i => i = 4 * n + k) σ (os_sf (os_sa (os_sf σ 18 x) 8 (4 * n + k) y) 15 z) := fun x y z i hi => (show (os_sa (os_sf σ 18 x) 8 (4 * n + k) y).2 8 i = σ.2 8 i from sa_i hi)
  unfold fX9_letter
  simp only [e, gx_chk_t g, ec, e18, e18', e15]
  cases b with
  | true =>
    rw [if_neg (show ¬ os_f σ 18 = 0 from by rw [show os_f σ 18 = 1 from h.2.2.2.1]; decide), gx_chk_t (Or.inr trivial), if_neg one0, if_neg one0, show nI a + (0 : Int32) = nI a from Int32.add_zero _]
    rw [if_neg (fun q => by cases q.1)]
    exact ⟨_, rfl, mR_15 (mR_8 (mR_18 rfl h)), (fun q => by cases q.1), fr _ _ _, ft _ _ _⟩
  | false =>
    have hb : fX9_in (if a < L then T a else -1) (97 : Int32) (122 : Int32) = some (b1 (btw T L a 97 122)) := in_btw (lo := 97) (hi := 122) (by decide) (by decide)
    rw [if_pos (show os_f σ 18 = 0 from h.2.2.2.1), m_here0 hL h (by omega), gx_b_some, hb, gx_b_some]
    by_cases c : btw T L a 97 122 = true
    · have hal := (btw_t.mp c).1
      have hh0 : fX9_here (os_sf σ 18 0) (0 : Int32) = some (if a < L then T a else -1) := m_here0 hL (mR_18 (c := false) rfl h) (by omega)
      rw [c, show b1 true = 1 from rfl, if_neg one0, gx_chk_t (Or.inl trivial), if_pos trivial, hh0, gx_b_some, if_pos hal, if_pos trivial, nI_1, if_pos ⟨rfl, rfl⟩]
      refine ⟨_, rfl, mR_15 (mR_8 (mR_18 rfl h)), fun _ => ?_, fr _ _ _, ft _ _ _⟩
      rw [sf_a, sa_same]
    · have cf : btw T L a 97 122 = false := by
        cases h9 : btw T L a 97 122 with
        | false => rfl
        | true => exact absurd h9 c
      rw [cf, show b1 false = 0 from rfl, if_pos rfl, gx_chk_t (Or.inr trivial), if_neg one0, if_neg one0, show nI a + (0 : Int32) = nI a from Int32.add_zero _, if_neg (fun q => by cases q.2)]
      exact ⟨_, rfl, mR_15 (mR_8 (mR_18 rfl h)), (fun q => by cases q.2), fr _ _ _, ft _ _ _⟩
end Mread
