/-! the class's words, numbers, commands, texts: by program (wip/gen/pread2.py) -/
section Cread2
variable {L : Nat} {s t : OS}
theorem r_alk2 (hL : L ≤ 60) (ht : t.1 1 = nI L) {a wi : Nat} (hs : s.1 1 = nI a) (ha : a ≤ 100) (hw : wi < 8) (hl : gx_len wi ≤ 5) : ∀ (d j n : Nat), j + d = gx_len wi → d < n → fX5_countAlike_2 (s, t) n wi (nI j) = some (nI (j + alk (t.2 0) L (a + j) ((gx_tx.getD wi []).drop j))) := by
  intro d
  induction d with
  | zero =>
    intro j n hj hn
    obtain ⟨m, rfl⟩ : ∃ m, n = m + 1 := ⟨n - 1, by omega⟩
    rw [fX5_countAlike_2_s, gx_chk_t hw, n_le (by omega) (by omega), if_pos (by omega), List.drop_of_length_le (show (gx_tx.getD wi []).length ≤ j from by show gx_len wi ≤ j; omega)]
    rfl
  | succ d ih =>
    intro j n hj hn
    obtain ⟨m, rfl⟩ : ∃ m, n = m + 1 := ⟨n - 1, by omega⟩
    have hjl : j < (gx_tx.getD wi []).length := by show j < gx_len wi; omega
    have hch : gx_chr wi j = (gx_tx.getD wi [])[j] := by
      unfold gx_chr
      rw [List.getD_eq_getElem?_getD, List.getElem?_eq_getElem hjl]
      rfl
    rw [fX5_countAlike_2_s, gx_chk_t hw, n_le (by omega) (by omega), if_neg (by omega), gx_chk_t ⟨hw, nI_in (by omega) (by omega)⟩, nI_clamp (by omega), show os_f (s, t).1 1 = nI a from hs, nI_add, r_st hL ht (by omega), gx_b_some, hch, List.drop_eq_getElem_cons hjl]
    by_cases c : st (t.2 0) L (a + j) (gx_tx.getD wi [])[j] = true
    · rw [c, show b1 true = 1 from rfl, if_neg one0, nI_1, ih (j + 1) m (by omega) (by omega)]
      show _ = some (nI (j + (if st (t.2 0) L (a + j) (gx_tx.getD wi [])[j] = true then 1 + alk (t.2 0) L (a + j + 1) ((gx_tx.getD wi []).drop (j + 1)) else 0)))
      rw [if_pos c, Nat.add_assoc a j 1]
      congr 2
      omega
    · have cf : st (t.2 0) L (a + j) (gx_tx.getD wi [])[j] = false := by
        cases h : st (t.2 0) L (a + j) (gx_tx.getD wi [])[j] with
        | false => rfl
        | true => exact absurd h c
      rw [cf, show b1 false = 0 from rfl, if_pos rfl]
      show _ = some (nI (j + (if st (t.2 0) L (a + j) (gx_tx.getD wi [])[j] = true then 1 + alk (t.2 0) L (a + j + 1) ((gx_tx.getD wi []).drop (j + 1)) else 0)))
      rw [if_neg c]
      rfl
theorem r_alk (hL : L ≤ 60) (ht : t.1 1 = nI L) {a wi : Nat} (hs : s.1 1 = nI a) (ha : a ≤ 100) (hw : wi < 8) (hl : gx_len wi ≤ 5) : fX5_countAlike (s, t) wi = some (nI (alk (t.2 0) L a (gx_tx.getD wi []))) := by
  have h := r_alk2 hL ht hs ha hw hl (gx_len wi) 0 2000 (by omega) (by omega)
  rw [Nat.zero_add, Nat.add_zero, List.drop_zero] at h
  exact h
theorem wd_lt : ∀ i, i < 6 → gx_wd i < 8 ∧ gx_len (gx_wd i) ≤ 5 := by decide
theorem r_wd4 (hL : L ≤ 60) (ht : t.1 1 = nI L) {a : Nat} (hs : s.1 1 = nI a) (ha : a ≤ 90) {i n v : Nat} (hi : i < 6) (hv : v ≤ 5) : fX5_readWord_4 (n + 1) (s, t) (nI v) (nI i) = if alk (t.2 0) L a (gx_tx.getD (gx_wd i) []) = gx_len (gx_wd i) then some (nI (i + 1), (os_sf s 1 (nI (a + alk (t.2 0) L a (gx_tx.getD (gx_wd i) []))), t)) else fX5_readWord_4 n (s, t) (nI (if v < alk (t.2 0) L a (gx_tx.getD (gx_wd i) []) then alk (t.2 0) L a (gx_tx.getD (gx_wd i) []) else v)) (nI (i + 1)) := by
  obtain ⟨w1, w2⟩ := wd_lt i hi
  have hle := (alk_le (T := t.2 0) (L := L) (gx_tx.getD (gx_wd i) []) a).1
  have hle2 : alk (t.2 0) L a (gx_tx.getD (gx_wd i) []) ≤ gx_len (gx_wd i) := hle
  have ei : (nI i).toNatClampNeg = i := nI_clamp (by omega)
  have gi : gx_in (nI i) 6 := nI_in (by omega) (by decide)
  rw [fX5_readWord_4_s, if_neg (show ¬ (6 : Int32) ≤ nI i from nI_ge (b := 6) (by omega) (by decide)), gx_chk_t gi]
  simp only [ei, gx_chk_t gi]
  rw [r_alk hL ht hs (by omega) w1 w2, gx_b_some, gx_chk_t w1, n_eq (by omega) (by omega), nI_1, show os_f (s, t).1 1 = nI a from hs, nI_add, n_lt (by omega) (by omega), n_ite]
theorem r_wd6 {a n v : Nat} (hs : s.1 1 = nI a) : fX5_readWord_4 (n + 1) (s, t) (nI v) (nI 6) = some (0, (os_sf s 1 (nI (a + v)), t)) := by
  rw [fX5_readWord_4_s, if_pos (show (6 : Int32) ≤ nI 6 from by decide), show os_f (s, t).1 1 = nI a from hs, nI_add]
theorem alk_0 {T : Nat → Int32} {a : Nat} {c : Int32} {w : List Int32} (h : ¬ st T L a c = true) : alk T L a (c :: w) = 0 := if_neg h
theorem alk_1 {T : Nat → Int32} {a : Nat} {c : Int32} {w : List Int32} (h : st T L a c = true) : alk T L a (c :: w) = 1 + alk T L (a + 1) w := if_pos h
theorem st_no {T : Nat → Int32} {a : Nat} {c e : Int32} (h : st T L a c = true) (hne : c ≠ e) : ¬ st T L a e = true := fun q => hne ((st_t.mp h).2.symm.trans (st_t.mp q).2)
/-- the class's search of a word, by numbers alone -/
def rw6 (k0 k1 k2 k3 k4 k5 : Nat) : Nat × Nat := if k0 = 3 then (1, k0) else if k1 = 4 then (2, k1) else if k2 = 4 then (3, k2) else if k3 = 5 then (4, k3) else if k4 = 4 then (5, k4) else if k5 = 4 then (6, k5) else (0, max (max (max (max (max k0 k1) k2) k3) k4) k5)
theorem mx_if (v k : Nat) : (if v < k then k else v) = max v k := by
  rw [Nat.max_def]
  split <;> split <;> omega
theorem r_word (hL : L ≤ 60) (ht : t.1 1 = nI L) {a : Nat} (hs : s.1 1 = nI a) (ha : a ≤ 90) : ∃ s', fX5_readWord (s, t) = some (nI (rw6 (alk (t.2 0) L a [97, 100, 100]) (alk (t.2 0) L a [109, 111, 118, 101]) (alk (t.2 0) L a [102, 105, 114, 101]) (alk (t.2 0) L a [111, 114, 100, 101, 114]) (alk (t.2 0) L a [102, 108, 97, 103]) (alk (t.2 0) L a [119, 97, 105, 116])).1, (s', t)) ∧ s'.1 1 = nI (a + (rw6 (alk (t.2 0) L a [97, 100, 100]) (alk (t.2 0) L a [109, 111, 118, 101]) (alk (t.2 0) L a [102, 105, 114, 101]) (alk (t.2 0) L a [111, 114, 100, 101, 114]) (alk (t.2 0) L a [102, 108, 97, 103]) (alk (t.2 0) L a [119, 97, 105, 116])).2) ∧ frS s s' := by
  have l0 := (alk_le (T := t.2 0) (L := L) [97, 100, 100] a).1
  have l1 := (alk_le (T := t.2 0) (L := L) [109, 111, 118, 101] a).1
  have l2 := (alk_le (T := t.2 0) (L := L) [102, 105, 114, 101] a).1
  have l3 := (alk_le (T := t.2 0) (L := L) [111, 114, 100, 101, 114] a).1
  have l4 := (alk_le (T := t.2 0) (L := L) [102, 108, 97, 103] a).1
  have l5 := (alk_le (T := t.2 0) (L := L) [119, 97, 105, 116] a).1
  have h0 := @r_wd4 L s t hL ht a hs ha 0 1999 0 (by omega) (by omega)
  have h1 := fun v hv => @r_wd4 L s t hL ht a hs ha 1 1998 v (by omega) hv
  have h2 := fun v hv => @r_wd4 L s t hL ht a hs ha 2 1997 v (by omega) hv
  have h3 := fun v hv => @r_wd4 L s t hL ht a hs ha 3 1996 v (by omega) hv
  have h4 := fun v hv => @r_wd4 L s t hL ht a hs ha 4 1995 v (by omega) hv
  have h5 := fun v hv => @r_wd4 L s t hL ht a hs ha 5 1994 v (by omega) hv
  have h6 := fun v => @r_wd6 s t a 1993 v hs
  rw [show gx_tx.getD (gx_wd 0) [] = [97, 100, 100] from rfl, show gx_len (gx_wd 0) = 3 from rfl] at h0
  rw [show gx_tx.getD (gx_wd 1) [] = [109, 111, 118, 101] from rfl, show gx_len (gx_wd 1) = 4 from rfl] at h1
  rw [show gx_tx.getD (gx_wd 2) [] = [102, 105, 114, 101] from rfl, show gx_len (gx_wd 2) = 4 from rfl] at h2
  rw [show gx_tx.getD (gx_wd 3) [] = [111, 114, 100, 101, 114] from rfl, show gx_len (gx_wd 3) = 5 from rfl] at h3
  rw [show gx_tx.getD (gx_wd 4) [] = [102, 108, 97, 103] from rfl, show gx_len (gx_wd 4) = 4 from rfl] at h4
  rw [show gx_tx.getD (gx_wd 5) [] = [119, 97, 105, 116] from rfl, show gx_len (gx_wd 5) = 4 from rfl] at h5
  generalize alk (t.2 0) L a [97, 100, 100] = k0 at *
  generalize alk (t.2 0) L a [109, 111, 118, 101] = k1 at *
  generalize alk (t.2 0) L a [102, 105, 114, 101] = k2 at *
  generalize alk (t.2 0) L a [111, 114, 100, 101, 114] = k3 at *
  generalize alk (t.2 0) L a [102, 108, 97, 103] = k4 at *
  generalize alk (t.2 0) L a [119, 97, 105, 116] = k5 at *
  have m0 : k0 ≤ 5 := Nat.le_trans l0 (by decide)
  have m1 : max k0 k1 ≤ 5 := Nat.max_le.mpr ⟨m0, Nat.le_trans l1 (by decide)⟩
  have m2 : max (max k0 k1) k2 ≤ 5 := Nat.max_le.mpr ⟨m1, Nat.le_trans l2 (by decide)⟩
  have m3 : max (max (max k0 k1) k2) k3 ≤ 5 := Nat.max_le.mpr ⟨m2, Nat.le_trans l3 (by decide)⟩
  have m4 : max (max (max (max k0 k1) k2) k3) k4 ≤ 5 := Nat.max_le.mpr ⟨m3, Nat.le_trans l4 (by decide)⟩
  have key : ∀ x : Nat × Nat, rw6 k0 k1 k2 k3 k4 k5 = x → fX5_readWord (s, t) = some (nI x.1, (os_sf s 1 (nI (a + x.2)), t)) → ∃ s', fX5_readWord (s, t) = some (nI (rw6 k0 k1 k2 k3 k4 k5).1, (s', t)) ∧ s'.1 1 = nI (a + (rw6 k0 k1 k2 k3 k4 k5).2) ∧ frS s s' := fun x e h => by
    rw [e]
    exact ⟨_, h, sf_same, fun q hq => sf_k hq⟩
  rw [mx_if, Nat.zero_max] at h0
  have E0 : fX5_readWord (s, t) = _ := h0
  by_cases c0 : k0 = 3
  · exact key (1, k0) (by unfold rw6; rw [if_pos c0]) (E0.trans (if_pos c0))
  have h1 := h1 k0 m0
  rw [mx_if] at h1
  have E1 := (E0.trans (if_neg c0)).trans h1
  by_cases c1 : k1 = 4
  · exact key (2, k1) (by unfold rw6; rw [if_neg c0, if_pos c1]) (E1.trans (if_pos c1))
  have h2 := h2 _ m1
  rw [mx_if] at h2
  have E2 := (E1.trans (if_neg c1)).trans h2
  by_cases c2 : k2 = 4
  · exact key (3, k2) (by unfold rw6; rw [if_neg c0, if_neg c1, if_pos c2]) (E2.trans (if_pos c2))
  have h3 := h3 _ m2
  rw [mx_if] at h3
  have E3 := (E2.trans (if_neg c2)).trans h3
  by_cases c3 : k3 = 5
  · exact key (4, k3) (by unfold rw6; rw [if_neg c0, if_neg c1, if_neg c2, if_pos c3]) (E3.trans (if_pos c3))
  have h4 := h4 _ m3
  rw [mx_if] at h4
  have E4 := (E3.trans (if_neg c3)).trans h4
  by_cases c4 : k4 = 4
  · exact key (5, k4) (by unfold rw6; rw [if_neg c0, if_neg c1, if_neg c2, if_neg c3, if_pos c4]) (E4.trans (if_pos c4))
  have h5 := h5 _ m4
  rw [mx_if] at h5
  have E5 := (E4.trans (if_neg c4)).trans h5
  by_cases c5 : k5 = 4
  · exact key (6, k5) (by unfold rw6; rw [if_neg c0, if_neg c1, if_neg c2, if_neg c3, if_neg c4, if_pos c5]) (E5.trans (if_pos c5))
  exact key (0, max (max (max (max (max k0 k1) k2) k3) k4) k5) (by unfold rw6; rw [if_neg c0, if_neg c1, if_neg c2, if_neg c3, if_neg c4, if_neg c5]) ((E5.trans (if_neg c5)).trans (h6 _))
theorem rw6_wrd {T : Nat → Int32} {a : Nat} : wrd T L a = ((rw6 (alk T L a [97, 100, 100]) (alk T L a [109, 111, 118, 101]) (alk T L a [102, 105, 114, 101]) (alk T L a [111, 114, 100, 101, 114]) (alk T L a [102, 108, 97, 103]) (alk T L a [119, 97, 105, 116])).1, a + (rw6 (alk T L a [97, 100, 100]) (alk T L a [109, 111, 118, 101]) (alk T L a [102, 105, 114, 101]) (alk T L a [111, 114, 100, 101, 114]) (alk T L a [102, 108, 97, 103]) (alk T L a [119, 97, 105, 116])).2) := by
  unfold wrd
  by_cases ca : st T L a 97 = true
  · rw [if_pos ca, alk_0 (c := 109) (st_no ca (by decide)), alk_0 (c := 102) (w := [105, 114, 101]) (st_no ca (by decide)), alk_0 (c := 111) (st_no ca (by decide)), alk_0 (c := 102) (w := [108, 97, 103]) (st_no ca (by decide)), alk_0 (c := 119) (st_no ca (by decide))]
    unfold wd1 rw6
    simp only [List.length_cons, List.length_nil]
    split <;> simp_all
  rw [if_neg ca, alk_0 (c := 97) ca]
  by_cases cm : st T L a 109 = true
  · rw [if_pos cm, alk_0 (c := 102) (w := [105, 114, 101]) (st_no cm (by decide)), alk_0 (c := 111) (st_no cm (by decide)), alk_0 (c := 102) (w := [108, 97, 103]) (st_no cm (by decide)), alk_0 (c := 119) (st_no cm (by decide))]
    unfold wd1 rw6
    simp only [List.length_cons, List.length_nil]
    split <;> simp_all
  rw [if_neg cm, alk_0 (c := 109) cm]
  by_cases cf : st T L a 102 = true
  · rw [if_pos cf, alk_0 (c := 111) (st_no cf (by decide)), alk_0 (c := 119) (st_no cf (by decide))]
    by_cases cl : st T L (a + 1) 108 = true
    · have e2 : alk T L a [102, 105, 114, 101] = 1 := by rw [alk_1 cf, alk_0 (st_no cl (by decide))]
      have e4 : 1 ≤ alk T L a [102, 108, 97, 103] := by rw [alk_1 cf]; omega
      rw [if_pos cl, e2]
      unfold wd1 rw6
      simp only [List.length_cons, List.length_nil, Nat.zero_add, Nat.reduceAdd]
      generalize alk T L a [102, 108, 97, 103] = k4 at *
      rw [if_neg (show ¬ (0 : Nat) = 3 by decide), if_neg (show ¬ (0 : Nat) = 4 by decide), if_neg (show ¬ (1 : Nat) = 4 by decide), if_neg (show ¬ (0 : Nat) = 5 by decide)]
      by_cases c4 : k4 = 4
      · rw [if_pos c4, if_pos c4]
      · rw [if_neg c4, if_neg c4, if_neg (show ¬ (0 : Nat) = 4 by decide)]
        have : max (max (max (max (max 0 0) 1) 0) k4) 0 = k4 := by omega
        rw [this]
    · have e4 : alk T L a [102, 108, 97, 103] = 1 := by rw [alk_1 cf, alk_0 cl]
      have e2 : 1 ≤ alk T L a [102, 105, 114, 101] := by rw [alk_1 cf]; omega
      rw [if_neg cl, e4]
      unfold wd1 rw6
      simp only [List.length_cons, List.length_nil, Nat.zero_add, Nat.reduceAdd]
      generalize alk T L a [102, 105, 114, 101] = k2 at *
      rw [if_neg (show ¬ (0 : Nat) = 3 by decide), if_neg (show ¬ (0 : Nat) = 4 by decide)]
      by_cases c2 : k2 = 4
      · rw [if_pos c2, if_pos c2]
      · rw [if_neg c2, if_neg c2, if_neg (show ¬ (0 : Nat) = 5 by decide), if_neg (show ¬ (1 : Nat) = 4 by decide), if_neg (show ¬ (0 : Nat) = 4 by decide)]
        have : max (max (max (max (max 0 0) k2) 0) 1) 0 = k2 := by omega
        rw [this]
  rw [if_neg cf, alk_0 (c := 102) (w := [105, 114, 101]) cf, alk_0 (c := 102) (w := [108, 97, 103]) cf]
  by_cases co : st T L a 111 = true
  · rw [if_pos co, alk_0 (c := 119) (st_no co (by decide))]
    unfold wd1 rw6
    simp only [List.length_cons, List.length_nil]
    split <;> simp_all
  rw [if_neg co, alk_0 (c := 111) co]
  by_cases cw : st T L a 119 = true
  · rw [if_pos cw]
    unfold wd1 rw6
    simp only [List.length_cons, List.length_nil]
    split <;> simp_all
  rw [if_neg cw, alk_0 (c := 119) cw]
  rfl
theorem r_word' (hL : L ≤ 60) (ht : t.1 1 = nI L) {a : Nat} (hs : s.1 1 = nI a) (ha : a ≤ 90) : ∃ s', fX5_readWord (s, t) = some (nI (wrd (t.2 0) L a).1, (s', t)) ∧ s'.1 1 = nI (wrd (t.2 0) L a).2 ∧ frS s s' := by
  rw [rw6_wrd]
  exact r_word hL ht hs ha
theorem wrd_le {T : Nat → Int32} {a : Nat} : (wrd T L a).1 ≤ 6 ∧ ((wrd T L a).2 ≤ L ∨ (wrd T L a).2 = a) ∧ ((wrd T L a).1 ≠ 0 → a + 3 ≤ (wrd T L a).2) := by
  have hw : ∀ (kd : Nat) (w : List Int32), kd ≤ 6 → 3 ≤ w.length → (wd1 T L a kd w).1 ≤ 6 ∧ ((wd1 T L a kd w).2 ≤ L ∨ (wd1 T L a kd w).2 = a) ∧ ((wd1 T L a kd w).1 ≠ 0 → a + 3 ≤ (wd1 T L a kd w).2) := fun kd w hk hwl => by
    obtain ⟨l1, l2⟩ := alk_le (T := T) (L := L) w a
    unfold wd1
    by_cases c : alk T L a w = w.length
    · rw [if_pos c]; refine ⟨hk, ?_, fun _ => ?_⟩ <;> simp only [] <;> omega
    · rw [if_neg c]; refine ⟨Nat.zero_le _, ?_, fun q => absurd rfl q⟩ <;> simp only [] <;> omega
  unfold wrd
  split
  · exact hw 1 _ (by decide) (by decide)
  · split
    · exact hw 2 _ (by decide) (by decide)
    · split
      · split
        · exact hw 5 _ (by decide) (by decide)
        · exact hw 3 _ (by decide) (by decide)
      · split
        · exact hw 4 _ (by decide) (by decide)
        · split
          · exact hw 6 _ (by decide) (by decide)
          · exact ⟨Nat.zero_le _, Or.inr rfl, fun q => absurd rfl q⟩
theorem r_first (hL : L ≤ 60) (ht : t.1 1 = nI L) {a most : Nat} (hmost : most ≤ 3) (h1 : 1 ≤ most) (hs : s.1 1 = nI a) (ha : a ≤ 90) : ∃ s', fX5_readFirst (s, t) (nI most) = some (b1 (num (t.2 0) L a most).1, (s', t)) ∧ s'.1 1 = nI (num (t.2 0) L a most).2.1 ∧ ((num (t.2 0) L a most).1 = true → s'.1 3 = nI (num (t.2 0) L a most).2.2) ∧ ∀ k, k ≠ 1 → k ≠ 3 → s'.1 k = s.1 k := by
  obtain ⟨s1, r1, r2, r3⟩ := r_num hL ht hmost h1 hs ha
  have hv := (num_le (T := t.2 0) (L := L) (a := a) hmost).2.2
  unfold fX5_readFirst
  rw [r1, gx_b_some]
  have e : ∀ v, os_f (os_sf s1 3 v) 3 = v := fun v => sf_same
  simp only [e]
  cases h : (num (t.2 0) L a most).1 with
  | true =>
    rw [if_pos rfl, if_neg (n_m1 (by omega))]
    exact ⟨_, rfl, (sf_k (by decide)).trans r2, fun _ => sf_same, fun k k1 k2 => (sf_k k2).trans (r3 k k1)⟩
  | false =>
    rw [if_neg (show ¬ (false = true) by decide), if_pos rfl]
    exact ⟨_, rfl, (sf_k (by decide)).trans r2, (fun q => by cases q), fun k k1 k2 => (sf_k k2).trans (r3 k k1)⟩
theorem r_second (hL : L ≤ 60) (ht : t.1 1 = nI L) {a most : Nat} (hmost : most ≤ 3) (h1 : 1 ≤ most) (hs : s.1 1 = nI a) (ha : a ≤ 90) : ∃ s', fX5_readSecond (s, t) (nI most) = some (b1 (num (t.2 0) L a most).1, (s', t)) ∧ s'.1 1 = nI (num (t.2 0) L a most).2.1 ∧ ((num (t.2 0) L a most).1 = true → s'.1 4 = nI (num (t.2 0) L a most).2.2) ∧ ∀ k, k ≠ 1 → k ≠ 4 → s'.1 k = s.1 k := by
  obtain ⟨s1, r1, r2, r3⟩ := r_num hL ht hmost h1 hs ha
  have hv := (num_le (T := t.2 0) (L := L) (a := a) hmost).2.2
  unfold fX5_readSecond
  rw [r1, gx_b_some]
  have e : ∀ v, os_f (os_sf s1 4 v) 4 = v := fun v => sf_same
  simp only [e]
  cases h : (num (t.2 0) L a most).1 with
  | true =>
    rw [if_pos rfl, if_neg (n_m1 (by omega))]
    exact ⟨_, rfl, (sf_k (by decide)).trans r2, fun _ => sf_same, fun k k1 k2 => (sf_k k2).trans (r3 k k1)⟩
  | false =>
    rw [if_neg (show ¬ (false = true) by decide), if_pos rfl]
    exact ⟨_, rfl, (sf_k (by decide)).trans r2, (fun q => by cases q), fun k k1 k2 => (sf_k k2).trans (r3 k k1)⟩
theorem r_third (hL : L ≤ 60) (ht : t.1 1 = nI L) {a most : Nat} (hmost : most ≤ 3) (h1 : 1 ≤ most) (hs : s.1 1 = nI a) (ha : a ≤ 90) : ∃ s', fX5_readThird (s, t) (nI most) = some (b1 (num (t.2 0) L a most).1, (s', t)) ∧ s'.1 1 = nI (num (t.2 0) L a most).2.1 ∧ ((num (t.2 0) L a most).1 = true → s'.1 5 = nI (num (t.2 0) L a most).2.2) ∧ ∀ k, k ≠ 1 → k ≠ 5 → s'.1 k = s.1 k := by
  obtain ⟨s1, r1, r2, r3⟩ := r_num hL ht hmost h1 hs ha
  have hv := (num_le (T := t.2 0) (L := L) (a := a) hmost).2.2
  unfold fX5_readThird
  rw [r1, gx_b_some]
  have e : ∀ v, os_f (os_sf s1 5 v) 5 = v := fun v => sf_same
  simp only [e]
  cases h : (num (t.2 0) L a most).1 with
  | true =>
    rw [if_pos rfl, if_neg (n_m1 (by omega))]
    exact ⟨_, rfl, (sf_k (by decide)).trans r2, fun _ => sf_same, fun k k1 k2 => (sf_k k2).trans (r3 k k1)⟩
  | false =>
    rw [if_neg (show ¬ (false = true) by decide), if_pos rfl]
    exact ⟨_, rfl, (sf_k (by decide)).trans r2, (fun q => by cases q), fun k k1 k2 => (sf_k k2).trans (r3 k k1)⟩
def gC (r : CR) (s' : OS) : Prop := s'.1 1 = nI r.2.1 ∧ (r.1 = true → s'.1 2 = nI r.2.2.1 ∧ s'.1 3 = r.2.2.2.1 ∧ (r.2.2.1 = 1 ∨ r.2.2.1 = 2 ∨ r.2.2.1 = 4 ∨ r.2.2.1 = 5 → s'.1 4 = r.2.2.2.2.1) ∧ (r.2.2.1 = 1 ∨ r.2.2.1 = 4 ∨ r.2.2.1 = 5 → s'.1 5 = r.2.2.2.2.2))
theorem r_nm1 (hL : L ≤ 60) (ht : t.1 1 = nI L) {a p kd : Nat} (hp : p ≤ 3) (hp1 : 1 ≤ p) (hs : s.1 1 = nI a) (ha : a ≤ 90) (h2 : s.1 2 = nI kd) (hkd : kd = 3 ∨ kd = 6) : ∃ s', fX5_readFirst (s, t) (nI p) = some (b1 (nm1 (t.2 0) L kd a p).1, (s', t)) ∧ gC (nm1 (t.2 0) L kd a p) s' := by
  obtain ⟨s', r1, r2, r3, r4⟩ := r_first hL ht hp hp1 hs ha
  exact ⟨s', r1, r2, fun h => ⟨(r4 2 (by decide) (by decide)).trans h2, r3 h, fun q => by exfalso; have q' : kd = 1 ∨ kd = 2 ∨ kd = 4 ∨ kd = 5 := q; omega, fun q => by exfalso; have q' : kd = 1 ∨ kd = 4 ∨ kd = 5 := q; omega⟩⟩
theorem r_nm2 (hL : L ≤ 60) (ht : t.1 1 = nI L) {a p q kd : Nat} (hp : p ≤ 3) (hp1 : 1 ≤ p) (hq : q ≤ 3) (hq1 : 1 ≤ q) (hs : s.1 1 = nI a) (ha : a ≤ 90) (h2 : s.1 2 = nI kd) : ∃ s', gx_b (fX5_readFirst (s, t) (nI p)) (fun r78 => (if r78.1 = 0 then (some ((0 : Int32), r78.2)) else (gx_b (fX5_readSecond r78.2 (nI q)) (fun r86 => (if r86.1 = 0 then (some ((0 : Int32), r86.2)) else (some ((1 : Int32), r86.2))))))) = some (b1 (nm2 (t.2 0) L kd a p q).1, (s', t)) ∧ s'.1 1 = nI (nm2 (t.2 0) L kd a p q).2.1 ∧ (nm2 (t.2 0) L kd a p q).2.2.1 = kd ∧ ((nm2 (t.2 0) L kd a p q).1 = true → s'.1 2 = nI kd ∧ s'.1 3 = (nm2 (t.2 0) L kd a p q).2.2.2.1 ∧ s'.1 4 = (nm2 (t.2 0) L kd a p q).2.2.2.2.1) := by
  obtain ⟨s1, r1, r2, r3, r4⟩ := r_first hL ht hp hp1 hs ha
  have hn := num_le (T := t.2 0) (L := L) (a := a) hp
  rw [r1, gx_b_some]
  unfold nm2
  cases h : (num (t.2 0) L a p).1 with
  | false =>
    rw [show b1 false = 0 from rfl, if_pos rfl, if_neg (show ¬ (false = true) by decide)]
    exact ⟨s1, rfl, r2, rfl, fun q => by cases q⟩
  | true =>
    obtain ⟨s2, q1, q2, q3, q4⟩ := r_second hL ht hq hq1 r2 (by omega)
    rw [show b1 true = 1 from rfl, if_neg one0, if_pos rfl, q1, gx_b_some]
    cases h' : (num (t.2 0) L (num (t.2 0) L a p).2.1 q).1 with
    | false =>
      rw [show b1 false = 0 from rfl, if_pos rfl]
      exact ⟨s2, rfl, q2, rfl, fun q => by cases q⟩
    | true =>
      rw [show b1 true = 1 from rfl, if_neg one0]
      exact ⟨s2, rfl, q2, rfl, fun _ => ⟨(q4 2 (by decide) (by decide)).trans ((r4 2 (by decide) (by decide)).trans h2), (q4 3 (by decide) (by decide)).trans (r3 h), q3 h'⟩⟩
theorem nm2_le {T : Nat → Int32} {a p q kd : Nat} (hp : p ≤ 3) (hq : q ≤ 3) : a ≤ (nm2 T L kd a p q).2.1 ∧ ((nm2 T L kd a p q).2.1 ≤ L ∨ (nm2 T L kd a p q).2.1 = a) := by
  have h1 := num_le (T := T) (L := L) (a := a) hp
  have h2 := num_le (T := T) (L := L) (a := (num T L a p).2.1) hq
  unfold nm2
  split <;> simp only [] <;> omega
theorem nm3_le {T : Nat → Int32} {a p q r kd : Nat} (hp : p ≤ 3) (hq : q ≤ 3) (hr : r ≤ 3) : a ≤ (nm3 T L kd a p q r).2.1 ∧ ((nm3 T L kd a p q r).2.1 ≤ L ∨ (nm3 T L kd a p q r).2.1 = a) := by
  have h1 := nm2_le (T := T) (L := L) (a := a) (kd := kd) hp hq
  have h2 := num_le (T := T) (L := L) (a := (nm2 T L kd a p q).2.1) hr
  unfold nm3
  split
  · simp only []
    omega
  · omega
theorem r_nm3 (hL : L ≤ 60) (ht : t.1 1 = nI L) {a p q r kd : Nat} (hp : p ≤ 3) (hp1 : 1 ≤ p) (hq : q ≤ 3) (hq1 : 1 ≤ q) (hr : r ≤ 3) (hr1 : 1 ≤ r) (hs : s.1 1 = nI a) (ha : a ≤ 90) (h2 : s.1 2 = nI kd) : ∃ s', gx_b (fX5_readFirst (s, t) (nI p)) (fun r38 => (if r38.1 = 0 then (some ((0 : Int32), r38.2)) else (gx_b (fX5_readSecond r38.2 (nI q)) (fun r46 => (if r46.1 = 0 then (some ((0 : Int32), r46.2)) else (gx_b (fX5_readThird r46.2 (nI r)) (fun r54 => (if r54.1 = 0 then (some ((0 : Int32), r54.2)) else (some ((1 : Int32), r54.2)))))))))) = some (b1 (nm3 (t.2 0) L kd a p q r).1, (s', t)) ∧ gC (nm3 (t.2 0) L kd a p q r) s' := by
  obtain ⟨s1, r1, r2, r3, r4⟩ := r_first hL ht hp hp1 hs ha
  have hn := num_le (T := t.2 0) (L := L) (a := a) hp
  rw [r1, gx_b_some]
  unfold nm3 nm2
  cases h : (num (t.2 0) L a p).1 with
  | false =>
    rw [show b1 false = 0 from rfl, if_pos rfl, if_neg (show ¬ (false = true) by decide), if_neg (show ¬ (((false, (num (t.2 0) L a p).2.1, kd, 0, 0, 0) : CR).1 = true) from fun q => by cases q)]
    exact ⟨s1, rfl, r2, fun q => by cases q⟩
  | true =>
    obtain ⟨s2, q1, q2, q3, q4⟩ := r_second hL ht hq hq1 r2 (by omega)
    have hn2 := num_le (T := t.2 0) (L := L) (a := (num (t.2 0) L a p).2.1) hq
    rw [show b1 true = 1 from rfl, if_neg one0, if_pos rfl, q1, gx_b_some]
    cases h' : (num (t.2 0) L (num (t.2 0) L a p).2.1 q).1 with
    | false =>
      rw [show b1 false = 0 from rfl, if_pos rfl, if_neg (fun q => by cases q)]
      exact ⟨s2, rfl, q2, fun q => by cases q⟩
    | true =>
      obtain ⟨s3, z1, z2, z3, z4⟩ := r_third hL ht hr hr1 q2 (by omega)
      rw [show b1 true = 1 from rfl, if_neg one0, if_pos rfl, z1, gx_b_some]
      cases h'' : (num (t.2 0) L (num (t.2 0) L (num (t.2 0) L a p).2.1 q).2.1 r).1 with
      | false =>
        rw [show b1 false = 0 from rfl, if_pos rfl]
        exact ⟨s3, rfl, z2, fun q => by cases q⟩
      | true =>
        rw [show b1 true = 1 from rfl, if_neg one0]
        exact ⟨s3, rfl, z2, fun _ => ⟨(z4 2 (by decide) (by decide)).trans ((q4 2 (by decide) (by decide)).trans ((r4 2 (by decide) (by decide)).trans h2)), (z4 3 (by decide) (by decide)).trans ((q4 3 (by decide) (by decide)).trans (r3 h)), fun _ => (z4 4 (by decide) (by decide)).trans (q3 h'), fun _ => z3 h''⟩⟩
theorem r_flg (hL : L ≤ 60) (ht : t.1 1 = nI L) {a : Nat} (hs : s.1 1 = nI a) (ha : a ≤ 80) (h2 : s.1 2 = nI 5) : ∃ s', gx_b (fX5_accept (s, t) (32 : Int32)) (fun r167 => (if r167.1 = 0 then (some ((0 : Int32), r167.2)) else (gx_b (fX5_readLetters r167.2) (fun r174 => (if r174.1 = 0 then (some ((0 : Int32), r174.2)) else (gx_b (fX5_readThird r174.2 (2 : Int32)) (fun r182 => (if r182.1 = 0 then (some ((0 : Int32), r182.2)) else (some ((1 : Int32), r182.2)))))))))) = some (b1 (flg (t.2 0) L a).1, (s', t)) ∧ gC (flg (t.2 0) L a) s' := by
  obtain ⟨s1, r1, r2, r3⟩ := r_acc hL ht hs (by omega) (32 : Int32)
  unfold flg
  rw [r1, gx_b_some]
  by_cases c : st (t.2 0) L a 32 = true
  rotate_left
  · have cf : st (t.2 0) L a 32 = false := by
      cases h : st (t.2 0) L a 32 with
      | false => rfl
      | true => exact absurd h c
    rw [if_neg c] at r2
    rw [cf, show b1 false = 0 from rfl, if_pos rfl, if_neg (show ¬ (false = true) by decide)]
    exact ⟨s1, rfl, r2, fun q => by cases q⟩
  rw [if_pos c] at r2
  rw [c, show b1 true = 1 from rfl, if_neg one0, if_pos rfl]
  unfold fX5_readLetters
  obtain ⟨s2, q1, q2, q3⟩ := r_btw hL ht r2 (by omega) (97 : Int32) (122 : Int32)
  rw [show fX5_readBetween ((1 : Int32), (s1, t)).2 (97 : Int32) (122 : Int32) = _ from q1, gx_b_some]
  have e3 : ∀ (s : OS) v, os_f (os_sf s 3 v) 3 = v := fun s v => sf_same
  have e4 : ∀ (s : OS) v, os_f (os_sf s 4 v) 4 = v := fun s v => sf_same
  simp only [e3, e4]
  by_cases c1 : btw (t.2 0) L (a + 1) 97 122 = true
  rotate_left
  · rw [if_neg c1] at q2
    simp only [if_neg c1]
    rw [if_pos trivial, gx_b_some, if_pos rfl]
    exact ⟨_, rfl, (sf_k (by decide)).trans q2, fun q => by cases q⟩
  obtain ⟨x, x1, x2, x3⟩ := btw_n (b := 97) (c := 122) (by decide) (by decide) c1
  rw [if_pos c1] at q2
  simp only [if_pos c1]
  rw [x3, if_neg (n_m1 (by omega))]
  obtain ⟨s3, z1, z2, z3⟩ := r_btw hL ht (s := os_sf s2 3 (nI x)) ((sf_k (by decide)).trans q2) (by omega) (97 : Int32) (122 : Int32)
  rw [z1, gx_b_some]
  by_cases c2 : btw (t.2 0) L (a + 1 + 1) 97 122 = true
  rotate_left
  · rw [if_neg c2] at z2
    have c2' : ¬ btw (t.2 0) L (a + 2) 97 122 = true := c2
    simp only [if_neg c2, if_neg c2']
    rw [if_pos trivial, gx_b_some, if_pos rfl]
    exact ⟨_, rfl, (sf_k (by decide)).trans z2, fun q => by cases q⟩
  obtain ⟨y, y1, y2, y3⟩ := btw_n (b := 97) (c := 122) (by decide) (by decide) c2
  have c2' : btw (t.2 0) L (a + 2) 97 122 = true := c2
  have y3' : t.2 0 (a + 2) = nI y := y3
  rw [if_pos c2] at z2
  simp only [if_pos c2, if_pos c2']
  rw [y3, if_neg (n_m1 (by omega)), gx_b_some, if_neg one0]
  obtain ⟨s4, w1, w2, w3, w4⟩ := r_third hL ht (s := os_sf s3 4 (nI y)) (most := 2) (by omega) (by omega) ((sf_k (by decide)).trans z2) (by omega)
  rw [show fX5_readThird ((1 : Int32), (os_sf s3 4 (nI y), t)).2 (2 : Int32) = _ from w1, gx_b_some]
  have ea : a + 1 + 1 + 1 = a + 3 := rfl
  rw [ea] at w1 w2 w3 ⊢
  cases h : (num (t.2 0) L (a + 3) 2).1 with
  | false =>
    rw [show b1 false = 0 from rfl, if_pos rfl]
    exact ⟨s4, rfl, w2, fun q => by cases q⟩
  | true =>
    rw [show b1 true = 1 from rfl, if_neg one0]
    refine ⟨s4, rfl, w2, fun _ => ⟨?_, ?_, fun _ => ?_, fun _ => w3 h⟩⟩
    · rw [w4 2 (by decide) (by decide), sf_k (by decide), z3 2 (by decide), sf_k (by decide), q3 2 (by decide), r3 2 (by decide)]
      exact h2
    · rw [w4 3 (by decide) (by decide), sf_k (by decide), z3 3 (by decide), sf_same]
    · rw [w4 4 (by decide) (by decide), sf_same]
theorem r_wai (hL : L ≤ 60) (ht : t.1 1 = nI L) {a : Nat} (hs : s.1 1 = nI a) (ha : a ≤ 80) (h2 : s.1 2 = nI 6) : ∃ s', fX5_readHours (s, t) = some (b1 (wai (t.2 0) L a).1, (s', t)) ∧ gC (wai (t.2 0) L a) s' := by
  unfold fX5_readHours wai
  rw [show os_f (s, t).1 1 = nI a from hs, r_st hL ht (by omega), gx_b_some]
  by_cases c : st (t.2 0) L a 32 = true
  · obtain ⟨s', r1, r2⟩ := r_nm1 hL ht (p := 2) (by omega) (by omega) hs (by omega) h2 (Or.inr rfl)
    rw [c, show b1 true = 1 from rfl, if_neg one0, if_pos rfl, show fX5_readFirst (s, t) (2 : Int32) = _ from r1, gx_b_some]
    refine ⟨s', ?_, r2⟩
    rw [gx_chk_t]
    cases (nm1 (t.2 0) L 6 a 2).1
    · exact Or.inl rfl
    · exact Or.inr rfl
  · have cf : st (t.2 0) L a 32 = false := by
      cases h : st (t.2 0) L a 32 with
      | false => rfl
      | true => exact absurd h c
    rw [cf, show b1 false = 0 from rfl, if_pos rfl, if_neg (show ¬ (false = true) by decide)]
    exact ⟨os_sf s 3 1, rfl, (sf_k (by decide)).trans hs, fun _ => ⟨(sf_k (by decide)).trans h2, sf_same, fun q => by exfalso; have q' : (6 : Nat) = 1 ∨ (6 : Nat) = 2 ∨ (6 : Nat) = 4 ∨ (6 : Nat) = 5 := q; omega, fun q => by exfalso; have q' : (6 : Nat) = 1 ∨ (6 : Nat) = 4 ∨ (6 : Nat) = 5 := q; omega⟩⟩
theorem b01 (b : Bool) : b1 b = 0 ∨ b1 b = 1 := by cases b; exact Or.inl rfl; exact Or.inr rfl
theorem r_next18 (hL : L ≤ 60) (ht : t.1 1 = nI L) {a : Nat} (hs : s.1 1 = nI a) (ha : a ≤ 61) : ∃ s', fX5_readNext_18 (s, t) = some (b1 (cmd (t.2 0) L a).1, (s', t)) ∧ gC (cmd (t.2 0) L a) s' := by
  obtain ⟨s1, r1, r2, r3⟩ := r_word' hL ht hs (by omega)
  obtain ⟨k1, k2, k3⟩ := wrd_le (T := t.2 0) (L := L) (a := a)
  unfold fX5_readNext_18 cmd
  rw [r1, gx_b_some]
  have e2 : ∀ v, os_f (os_sf s1 2 v) 2 = v := fun v => sf_same
  have hp : (os_sf s1 2 (nI (wrd (t.2 0) L a).1)).1 1 = nI (wrd (t.2 0) L a).2 := (sf_k (by decide)).trans r2
  have h2 : (os_sf s1 2 (nI (wrd (t.2 0) L a).1)).1 2 = nI (wrd (t.2 0) L a).1 := sf_same
  have g7 : gx_in (nI (wrd (t.2 0) L a).1) 7 := nI_in (by omega) (by decide)
  simp only [e2, gx_chk_t g7]
  have hb : (wrd (t.2 0) L a).2 ≤ 70 := by omega
  generalize hkd : (wrd (t.2 0) L a).1 = kd at *
  generalize (wrd (t.2 0) L a).2 = b at *
  have hk : kd = 0 ∨ kd = 1 ∨ kd = 2 ∨ kd = 3 ∨ kd = 4 ∨ kd = 5 ∨ kd = 6 := by omega
  rcases hk with rfl | rfl | rfl | rfl | rfl | rfl | rfl
  · rw [if_neg (by decide), if_neg (by decide), if_neg (by decide), if_neg (by decide), if_neg (by decide), if_neg (by decide), if_neg (by decide), if_neg (by decide), if_neg (by decide), if_neg (by decide), if_neg (by decide), if_neg (by decide)]
    exact ⟨_, rfl, hp, fun q => by cases q⟩
  · rw [if_pos (by decide), if_pos (by decide)]
    exact r_nm3 hL ht (p := 2) (q := 1) (r := 3) (by omega) (by omega) (by omega) (by omega) (by omega) (by omega) hp (by omega) h2
  · rw [if_neg (by decide), if_pos (by decide), if_neg (by decide), if_pos (by decide)]
    obtain ⟨s', q1, q2, q3, q4⟩ := r_nm2 hL ht (p := 2) (q := 2) (kd := 2) (by omega) (by omega) (by omega) (by omega) hp (by omega) h2
    exact ⟨s', q1, q2, fun h => ⟨by rw [q3]; exact (q4 h).1, (q4 h).2.1, fun _ => (q4 h).2.2, fun q => by exfalso; rw [q3] at q; omega⟩⟩
  · rw [if_neg (by decide), if_neg (by decide), if_pos (by decide), if_neg (by decide), if_neg (by decide), if_pos (by decide)]
    obtain ⟨s', q1, q2⟩ := r_nm1 hL ht (p := 2) (by omega) (by omega) hp (by omega) h2 (Or.inl rfl)
    rw [show fX5_readFirst (os_sf s1 2 (nI 3), t) (2 : Int32) = _ from q1, gx_b_some, gx_chk_t (b01 _)]
    exact ⟨s', rfl, q2⟩
  · rw [if_neg (by decide), if_neg (by decide), if_neg (by decide), if_pos (by decide), if_neg (by decide), if_neg (by decide), if_neg (by decide), if_pos (by decide)]
    exact r_nm3 hL ht (p := 2) (q := 2) (r := 3) (by omega) (by omega) (by omega) (by omega) (by omega) (by omega) hp (by omega) h2
  · rw [if_neg (by decide), if_neg (by decide), if_neg (by decide), if_neg (by decide), if_pos (by decide), if_neg (by decide), if_neg (by decide), if_neg (by decide), if_neg (by decide), if_pos (by decide)]
    exact r_flg hL ht hp (by omega) h2
  · rw [if_neg (by decide), if_neg (by decide), if_neg (by decide), if_neg (by decide), if_neg (by decide), if_pos (by decide), if_neg (by decide), if_neg (by decide), if_neg (by decide), if_neg (by decide), if_neg (by decide), if_pos (by decide)]
    obtain ⟨s', q1, q2⟩ := r_wai hL ht hp (by omega) h2
    rw [q1, gx_b_some]
    refine ⟨s', ?_, q2⟩
    cases (wai (t.2 0) L b).1
    · exact if_pos rfl
    · exact if_neg one0
end Cread2
