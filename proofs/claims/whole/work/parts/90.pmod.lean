/-! the reference's reading of a command -/
/-- what a step of the reference's reading leaves -/
def mO (T : Nat → Int32) (L n : Nat) (R : CR) (σ σ' : OS) : Prop := mR T L R.2.1 (!R.1) n σ' ∧ (R.1 = true → σ'.2 8 (4 * n + 1) = R.2.2.2.1 ∧ (R.2.2.1 = 1 ∨ R.2.2.1 = 2 ∨ R.2.2.1 = 4 ∨ R.2.2.1 = 5 → σ'.2 8 (4 * n + 2) = R.2.2.2.2.1) ∧ (R.2.2.1 = 1 ∨ R.2.2.1 = 4 ∨ R.2.2.1 = 5 → σ'.2 8 (4 * n + 3) = R.2.2.2.2.2)) ∧ fR σ σ' ∧ ∀ i, i ≤ 4 * n → σ'.2 8 i = σ.2 8 i
section Mread2
variable {T : Nat → Int32} {L a n : Nat} {b : Bool} {σ : OS}
theorem m_nm1 (hL : L ≤ 60) (hn : n < 60) {p kd : Nat} (hp : p ≤ 3) (ha : a ≤ 100) (hkd : kd = 3 ∨ kd = 6) (h : mR T L a false n σ) : ∃ σ', fX9_number σ (1 : Int32) (nI p) = some σ' ∧ mO T L n (nm1 T L kd a p) σ σ' := by
  obtain ⟨σ', q1, q2, q3, q4, q5⟩ := m_num hL hn (k := 1) (by omega) hp ha h
  refine ⟨σ', q1, q2, fun hk => ⟨q3 hk, fun q => ?_, fun q => ?_⟩, q4, fun i hi => q5 i (by omega)⟩
  · exfalso
    have q' : kd = 1 ∨ kd = 2 ∨ kd = 4 ∨ kd = 5 := q
    omega
  · exfalso
    have q' : kd = 1 ∨ kd = 4 ∨ kd = 5 := q
    omega
theorem b_cases (c : Bool) : c = true ∨ c = false := by cases c; exact Or.inr rfl; exact Or.inl rfl
theorem m_nm2 (hL : L ≤ 60) (hn : n < 60) {p q kd : Nat} (hp : p ≤ 3) (hq : q ≤ 3) (ha : a ≤ 90) (hL2 : a ≤ 90) (hkd : kd = 1 ∨ kd = 2 ∨ kd = 4) (h : mR T L a false n σ) : ∃ σ', gx_b (fX9_number σ (1 : Int32) (nI p)) (fun r => fX9_number r (2 : Int32) (nI q)) = some σ' ∧ mR T L (nm2 T L kd a p q).2.1 (!(nm2 T L kd a p q).1) n σ' ∧ ((nm2 T L kd a p q).1 = true → σ'.2 8 (4 * n + 1) = (nm2 T L kd a p q).2.2.2.1 ∧ σ'.2 8 (4 * n + 2) = (nm2 T L kd a p q).2.2.2.2.1) ∧ fR σ σ' ∧ ∀ i, i ≤ 4 * n → σ'.2 8 i = σ.2 8 i := by
  obtain ⟨σ1, q1, q2, q3, q4, q5⟩ := m_num hL hn (k := 1) (by omega) hp (by omega) h
  have hle := num_le (T := T) (L := L) (a := a) (most := p) hp
  rw [show fX9_number σ (1 : Int32) (nI p) = _ from q1, gx_b_some]
  unfold nm2
  rcases b_cases (num T L a p).1 with c | c
  · rw [c] at q2
    obtain ⟨σ2, r1, r2, r3, r4, r5⟩ := m_num hL hn (k := 2) (by omega) hq (by omega) q2
    rw [if_pos c]
    refine ⟨σ2, r1, r2, fun hk => ⟨?_, r3 hk⟩, fR_tr q4 r4, fun i hi => (r5 i (by omega)).trans (q5 i (by omega))⟩
    exact (r5 _ (by omega)).trans (q3 c)
  · rw [c] at q2
    obtain ⟨σ2, r1, r2, r3, r4⟩ := m_numw hn (k := 2) (most := q) (by omega) q2
    rw [if_neg (show ¬ (num T L a p).1 = true by rw [c]; decide)]
    exact ⟨σ2, r1, r2, (fun q => by cases q), fR_tr q4 r3, fun i hi => (r4 i (by omega)).trans (q5 i (by omega))⟩
theorem nm2_kd {p q kd : Nat} : (nm2 T L kd a p q).2.2.1 = kd := by
  unfold nm2
  split <;> rfl
theorem nm3_kd {p q r kd : Nat} : (nm3 T L kd a p q r).2.2.1 = kd := by
  unfold nm3
  split
  · rfl
  · exact nm2_kd
theorem m_nm3 (hL : L ≤ 60) (hn : n < 60) {p q r kd : Nat} (hp : p ≤ 3) (hq : q ≤ 3) (hr : r ≤ 3) (ha : a ≤ 80) (hkd : kd = 1 ∨ kd = 2 ∨ kd = 4) (h : mR T L a false n σ) : ∃ σ', gx_b (fX9_number σ (1 : Int32) (nI p)) (fun r' => gx_b (fX9_number r' (2 : Int32) (nI q)) (fun r'' => fX9_number r'' (3 : Int32) (nI r))) = some σ' ∧ mO T L n (nm3 T L kd a p q r) σ σ' := by
  obtain ⟨σ2, q1, q2, q3, q4, q5⟩ := m_nm2 hL hn (p := p) (q := q) (kd := kd) hp hq (by omega) (by omega) hkd h
  have hle := nm2_le (T := T) (L := L) (a := a) (p := p) (q := q) (kd := kd) hp hq
  have q1' : gx_b (fX9_number σ (1 : Int32) (nI p)) (fun r' => gx_b (fX9_number r' (2 : Int32) (nI q)) (fun r'' => fX9_number r'' (3 : Int32) (nI r))) = fX9_number σ2 (3 : Int32) (nI r) := by
    cases h1 : fX9_number σ (1 : Int32) (nI p) with
    | none => rw [h1] at q1; cases q1
    | some y => rw [h1, gx_b_some] at q1; rw [gx_b_some, q1, gx_b_some]
  rw [q1']
  unfold nm3
  rcases b_cases (nm2 T L kd a p q).1 with c | c
  · rw [c] at q2
    obtain ⟨σ3, r1, r2, r3, r4, r5⟩ := m_num hL hn (k := 3) (by omega) hr (by omega) q2
    rw [if_pos c]
    refine ⟨σ3, r1, r2, fun hk => ⟨?_, fun _ => ?_, fun _ => r3 hk⟩, fR_tr q4 r4, fun i hi => (r5 i (by omega)).trans (q5 i hi)⟩
    · exact (r5 _ (by omega)).trans (q3 c).1
    · exact (r5 _ (by omega)).trans (q3 c).2
  · rw [c] at q2
    obtain ⟨σ3, r1, r2, r3, r4⟩ := m_numw hn (k := 3) (most := r) (by omega) q2
    rw [if_neg (show ¬ (nm2 T L kd a p q).1 = true by rw [c]; decide)]
    refine ⟨σ3, r1, ?_, (fun q => by rw [c] at q; cases q), fR_tr q4 r3, fun i hi => (r4 i (by omega)).trans (q5 i hi)⟩
    rw [c]
    exact r2
/-- the number, but none when the word is wrong -/
theorem m_w1 (hn : n < 60) {p : Nat} (h : mR T L a true n σ) : ∃ σ', fX9_number σ (1 : Int32) (nI p) = some σ' ∧ mR T L a true n σ' ∧ fR σ σ' ∧ ∀ i, i ≤ 4 * n → σ'.2 8 i = σ.2 8 i := by
  obtain ⟨σ1, q1, q2, q3, q4⟩ := m_numw hn (k := 1) (most := p) (by omega) h
  exact ⟨σ1, q1, q2, q3, fun i hi => q4 i (by omega)⟩
theorem m_w2 (hn : n < 60) {p q : Nat} (h : mR T L a true n σ) : ∃ σ', gx_b (fX9_number σ (1 : Int32) (nI p)) (fun r => fX9_number r (2 : Int32) (nI q)) = some σ' ∧ mR T L a true n σ' ∧ fR σ σ' ∧ ∀ i, i ≤ 4 * n → σ'.2 8 i = σ.2 8 i := by
  obtain ⟨σ1, q1, q2, q3, q4⟩ := m_numw hn (k := 1) (most := p) (by omega) h
  obtain ⟨σ2, r1, r2, r3, r4⟩ := m_numw hn (k := 2) (most := q) (by omega) q2
  rw [show fX9_number σ (1 : Int32) (nI p) = _ from q1, gx_b_some]
  exact ⟨σ2, r1, r2, fR_tr q3 r3, fun i hi => (r4 i (by omega)).trans (q4 i (by omega))⟩
theorem m_w3 (hn : n < 60) {p q r : Nat} (h : mR T L a true n σ) : ∃ σ', gx_b (fX9_number σ (1 : Int32) (nI p)) (fun r' => gx_b (fX9_number r' (2 : Int32) (nI q)) (fun r'' => fX9_number r'' (3 : Int32) (nI r))) = some σ' ∧ mR T L a true n σ' ∧ fR σ σ' ∧ ∀ i, i ≤ 4 * n → σ'.2 8 i = σ.2 8 i := by
  obtain ⟨σ1, q1, q2, q3, q4⟩ := m_numw hn (k := 1) (most := p) (by omega) h
  obtain ⟨σ2, r1, r2, r3, r4⟩ := m_numw hn (k := 2) (most := q) (by omega) q2
  obtain ⟨σ3, s1, s2, s3, s4⟩ := m_numw hn (k := 3) (most := r) (by omega) r2
  rw [show fX9_number σ (1 : Int32) (nI p) = _ from q1, gx_b_some, show fX9_number σ1 (2 : Int32) (nI q) = _ from r1, gx_b_some]
  exact ⟨σ3, s1, s2, fR_tr (fR_tr q3 r3) s3, fun i hi => (s4 i (by omega)).trans ((r4 i (by omega)).trans (q4 i (by omega)))⟩
theorem gx_b_rt {α : Type} (x : Option α) : gx_b x (fun r => some r) = x := by cases x <;> rfl
theorem gx_b_as {α β γ : Type} (x : Option α) (f : α → Option β) (g : β → Option γ) : gx_b (gx_b x f) g = gx_b x (fun r => gx_b (f r) g) := by cases x <;> rfl
theorem m_nums3 {wi p q r : Nat} (hq : 1 ≤ q) (hr : 1 ≤ r) (hq3 : q ≤ 3) (hr3 : r ≤ 3) : fX9_numbers σ wi (nI p) (nI q) (nI r) = gx_b (fX9_says σ wi) (fun s => gx_b (fX9_number s (1 : Int32) (nI p)) (fun r' => gx_b (fX9_number r' (2 : Int32) (nI q)) (fun r'' => fX9_number r'' (3 : Int32) (nI r)))) := by
  unfold fX9_numbers fX9_numbers_21
  simp only [if_neg (show ¬ nI q ≤ 0 from nI_nle hq (by omega)), if_neg (show ¬ nI r ≤ 0 from nI_nle hr (by omega)), gx_b_rt]
theorem m_nums2 {wi p q : Nat} (hq : 1 ≤ q) (hq3 : q ≤ 3) : fX9_numbers σ wi (nI p) (nI q) (0 : Int32) = gx_b (fX9_says σ wi) (fun s => gx_b (fX9_number s (1 : Int32) (nI p)) (fun r' => fX9_number r' (2 : Int32) (nI q))) := by
  unfold fX9_numbers fX9_numbers_21
  simp only [if_neg (show ¬ nI q ≤ 0 from nI_nle hq (by omega)), if_pos (show (0 : Int32) ≤ 0 by decide), gx_b_rt]
theorem m_nums1 {wi p : Nat} : fX9_numbers σ wi (nI p) (0 : Int32) (0 : Int32) = gx_b (fX9_says σ wi) (fun s => fX9_number s (1 : Int32) (nI p)) := by
  unfold fX9_numbers fX9_numbers_21
  simp only [if_pos (show (0 : Int32) ≤ 0 by decide), gx_b_rt]
theorem m_says0 (hL : L ≤ 60) {wi : Nat} (hw : wi < 8) (ha : a ≤ 70) (h : mR T L a false n σ) : ∃ σ', fX9_says σ wi = some σ' ∧ mR T L (a + alk T L a (gx_tx.getD wi [])) (decide (alk T L a (gx_tx.getD wi []) < gx_len wi)) n σ' ∧ fR σ σ' ∧ (∀ i, i ≤ 4 * n → σ'.2 8 i = σ.2 8 i) ∧ a + alk T L a (gx_tx.getD wi []) ≤ 75 := by
  obtain ⟨σ', q1, q2, q3, q4⟩ := m_says hL hw (by omega) h
  have := tx_le wi hw
  have h3 := (alk_le (T := T) (L := L) (gx_tx.getD wi []) a).1
  have h4 : (gx_tx.getD wi []).length = gx_len wi := rfl
  exact ⟨σ', q1, q2, ⟨fun k k1 _ k3 => q4 k k1 k3, fun q _ => by rw [q3]⟩, fun i _ => by rw [q3], by omega⟩
/-- a word and its numbers -/
def mW (T : Nat → Int32) (L n : Nat) (b : Bool) (p : Nat) (R : CR) (σ σ' : OS) : Prop := (b = true → mR T L p true n σ' ∧ fR σ σ' ∧ ∀ i, i ≤ 4 * n → σ'.2 8 i = σ.2 8 i) ∧ (b = false → mO T L n R σ σ')
theorem m_wn3 (hL : L ≤ 60) (hn : n < 60) {wi p q r kd : Nat} (hw : wi < 8) (hq : 1 ≤ q) (hr : 1 ≤ r) (hp3 : p ≤ 3) (hq3 : q ≤ 3) (hr3 : r ≤ 3) (hkd : kd = 1 ∨ kd = 2 ∨ kd = 4) (ha : a ≤ 70) (h : mR T L a false n σ) : ∃ σ', fX9_numbers σ wi (nI p) (nI q) (nI r) = some σ' ∧ mW T L n (decide (alk T L a (gx_tx.getD wi []) < gx_len wi)) (a + alk T L a (gx_tx.getD wi [])) (nm3 T L kd (a + alk T L a (gx_tx.getD wi [])) p q r) σ σ' := by
  obtain ⟨σ1, q1, q2, q3, q4, q5⟩ := m_says0 hL hw ha h
  rw [m_nums3 hq hr hq3 hr3, q1, gx_b_some]
  rcases b_cases (decide (alk T L a (gx_tx.getD wi []) < gx_len wi)) with c | c
  · rw [c] at q2 ⊢
    obtain ⟨σ2, r1, r2, r3, r4⟩ := m_w3 hn (p := p) (q := q) (r := r) q2
    exact ⟨σ2, r1, fun _ => ⟨r2, fR_tr q3 r3, fun i hi => (r4 i hi).trans (q4 i hi)⟩, fun x => by cases x⟩
  · rw [c] at q2 ⊢
    obtain ⟨σ2, r1, r2, r3, r4, r5⟩ := m_nm3 hL hn (kd := kd) hp3 hq3 hr3 (by omega) hkd q2
    exact ⟨σ2, r1, (fun x => by cases x), fun _ => ⟨r2, r3, fR_tr q3 r4, fun i hi => (r5 i hi).trans (q4 i hi)⟩⟩
theorem m_wn2 (hL : L ≤ 60) (hn : n < 60) {wi p q : Nat} (hw : wi < 8) (hq : 1 ≤ q) (hp3 : p ≤ 3) (hq3 : q ≤ 3) (ha : a ≤ 70) (h : mR T L a false n σ) : ∃ σ', fX9_numbers σ wi (nI p) (nI q) (0 : Int32) = some σ' ∧ mW T L n (decide (alk T L a (gx_tx.getD wi []) < gx_len wi)) (a + alk T L a (gx_tx.getD wi [])) (nm2 T L 2 (a + alk T L a (gx_tx.getD wi [])) p q) σ σ' := by
  obtain ⟨σ1, q1, q2, q3, q4, q5⟩ := m_says0 hL hw ha h
  rw [m_nums2 hq hq3, q1, gx_b_some]
  rcases b_cases (decide (alk T L a (gx_tx.getD wi []) < gx_len wi)) with c | c
  · rw [c] at q2 ⊢
    obtain ⟨σ2, r1, r2, r3, r4⟩ := m_w2 hn (p := p) (q := q) q2
    exact ⟨σ2, r1, fun _ => ⟨r2, fR_tr q3 r3, fun i hi => (r4 i hi).trans (q4 i hi)⟩, fun x => by cases x⟩
  · rw [c] at q2 ⊢
    obtain ⟨σ2, r1, r2, r3, r4, r5⟩ := m_nm2 hL hn (kd := 2) hp3 hq3 (by omega) (by omega) (by omega) q2
    refine ⟨σ2, r1, (fun x => by cases x), fun _ => ⟨r2, fun hk => ⟨(r3 hk).1, fun _ => (r3 hk).2, fun x => ?_⟩, fR_tr q3 r4, fun i hi => (r5 i hi).trans (q4 i hi)⟩⟩
    rw [nm2_kd] at x
    exfalso
    omega
theorem m_wn1 (hL : L ≤ 60) (hn : n < 60) {wi p : Nat} (hw : wi < 8) (hp3 : p ≤ 3) (ha : a ≤ 70) (h : mR T L a false n σ) : ∃ σ', fX9_numbers σ wi (nI p) (0 : Int32) (0 : Int32) = some σ' ∧ mW T L n (decide (alk T L a (gx_tx.getD wi []) < gx_len wi)) (a + alk T L a (gx_tx.getD wi [])) (nm1 T L 3 (a + alk T L a (gx_tx.getD wi [])) p) σ σ' := by
  obtain ⟨σ1, q1, q2, q3, q4, q5⟩ := m_says0 hL hw ha h
  rw [m_nums1, q1, gx_b_some]
  rcases b_cases (decide (alk T L a (gx_tx.getD wi []) < gx_len wi)) with c | c
  · rw [c] at q2 ⊢
    obtain ⟨σ2, r1, r2, r3, r4⟩ := m_w1 hn (p := p) q2
    exact ⟨σ2, r1, fun _ => ⟨r2, fR_tr q3 r3, fun i hi => (r4 i hi).trans (q4 i hi)⟩, fun x => by cases x⟩
  · rw [c] at q2 ⊢
    obtain ⟨σ2, r1, r2, r3, r4, r5⟩ := m_nm1 hL hn (kd := 3) hp3 (by omega) (Or.inl rfl) q2
    exact ⟨σ2, r1, (fun x => by cases x), fun _ => ⟨r2, r3, fR_tr q3 r4, fun i hi => (r5 i hi).trans (q4 i hi)⟩⟩
/-- the wait -/
theorem m_wait (hL : L ≤ 60) (hn : n < 60) (ha : a ≤ 70) (h : mR T L a false n σ) : ∃ σ', fX9_readsWait σ = some σ' ∧ mW T L n (decide (alk T L a [119, 97, 105, 116] < 4)) (a + alk T L a [119, 97, 105, 116]) (wai T L (a + alk T L a [119, 97, 105, 116])) σ σ' := by
  obtain ⟨σ1, q1, q2, q3, q4, q5⟩ := m_says0 (wi := 6) hL (by omega) ha h
  rw [show gx_tx.getD 6 [] = [119, 97, 105, 116] from rfl, show gx_len 6 = 4 from rfl] at q2
  rw [show gx_tx.getD 6 [] = [119, 97, 105, 116] from rfl] at q5
  have e : (4 : Int32) * os_f σ1 17 + (1 : Int32) = nI (4 * n + 1) := by
    rw [show os_f σ1 17 = nI n from q2.2.2.1, show (4 : Int32) = nI 4 from rfl, n_mul, nI_1]
  have g : gx_in (nI (4 * n + 1)) 240 := nI_in (by omega) (by decide)
  have ec : (nI (4 * n + 1)).toNatClampNeg = 4 * n + 1 := nI_clamp (by omega)
  have f3 : fR σ (os_sa σ1 8 (4 * n + 1) 1) := ⟨fun k k1 k2 k3 => q3.1 k k1 k2 k3, fun q hq => (sa_j hq).trans (q3.2 q hq)⟩
  have f4 : ∀ i, i ≤ 4 * n → (os_sa σ1 8 (4 * n + 1) 1).2 8 i = σ.2 8 i := fun i hi => (sa_i (by omega)).trans (q4 i hi)
  unfold fX9_readsWait wai
  rw [q1, gx_b_some]
  simp only [e, gx_chk_t g, ec]
  generalize a + alk T L a [119, 97, 105, 116] = p at *
  rcases b_cases (decide (alk T L a [119, 97, 105, 116] < 4)) with c | c
  · rw [c] at q2 ⊢
    rw [if_neg (show ¬ os_f (os_sa σ1 8 (4 * n + 1) 1) 18 = 0 from by rw [show os_f (os_sa σ1 8 (4 * n + 1) 1) 18 = 1 from q2.2.2.2.1]; decide)]
    exact ⟨_, rfl, fun _ => ⟨mR_8 q2, f3, f4⟩, fun x => by cases x⟩
  · rw [c] at q2 ⊢
    have q2' : mR T L p false n (os_sa σ1 8 (4 * n + 1) 1) := mR_8 q2
    rw [if_pos (show os_f (os_sa σ1 8 (4 * n + 1) 1) 18 = 0 from q2.2.2.2.1), m_here0 hL q2' (by omega), gx_b_some]
    by_cases c2 : st T L p 32 = true
    · obtain ⟨σ2, r1, r2, r3, r4, r5⟩ := m_nm1 hL hn (p := 2) (kd := 6) (by omega) (by omega) (Or.inr rfl) q2'
      rw [if_pos ((st_if (by decide)).mpr c2), if_pos c2, show fX9_number (os_sa σ1 8 (4 * n + 1) 1) (1 : Int32) (2 : Int32) = _ from r1, gx_b_some]
      exact ⟨σ2, rfl, (fun x => by cases x), fun _ => ⟨r2, r3, fR_tr f3 r4, fun i hi => (r5 i hi).trans (f4 i hi)⟩⟩
    · rw [if_neg (fun q => c2 ((st_if (by decide)).mp q)), if_neg c2]
      refine ⟨_, rfl, (fun x => by cases x), fun _ => ⟨q2', fun _ => ⟨sa_same, fun x => ?_, fun x => ?_⟩, f3, f4⟩⟩
      · exfalso
        have x' : (6 : Nat) = 1 ∨ (6 : Nat) = 2 ∨ (6 : Nat) = 4 ∨ (6 : Nat) = 5 := x
        omega
      · exfalso
        have x' : (6 : Nat) = 1 ∨ (6 : Nat) = 4 ∨ (6 : Nat) = 5 := x
        omega
theorem alk_app (c : Int32) : ∀ (w : List Int32) (a : Nat), alk T L a (w ++ [c]) = if alk T L a w = w.length then (w.length + if st T L (a + w.length) c = true then 1 else 0) else alk T L a w := by
  intro w
  induction w with
  | nil =>
    intro a
    show (if st T L a c = true then 1 + 0 else 0) = if (0 : Nat) = 0 then (0 + if st T L (a + 0) c = true then 1 else 0) else 0
    rw [if_pos rfl]
    simp only [Nat.add_zero, Nat.zero_add]
  | cons d w ih =>
    intro a
    have hl := (alk_le (T := T) (L := L) w (a + 1)).1
    by_cases c1 : st T L a d = true
    · rw [List.cons_append, alk_1 c1, alk_1 c1, ih (a + 1), List.length_cons, show a + 1 + w.length = a + (w.length + 1) by omega]
      by_cases c2 : alk T L (a + 1) w = w.length
      · rw [if_pos c2, if_pos (show 1 + alk T L (a + 1) w = w.length + 1 by omega)]
        omega
      · rw [if_neg c2, if_neg (show ¬ 1 + alk T L (a + 1) w = w.length + 1 by omega)]
    · rw [List.cons_append, alk_0 c1, alk_0 c1, if_neg (show ¬ 0 = (d :: w).length by rw [List.length_cons]; omega)]
/-- the flag -/
theorem m_flag (hL : L ≤ 60) (hn : n < 60) (ha : a ≤ 70) (h : mR T L a false n σ) : ∃ σ', fX9_readsFlag σ = some σ' ∧ mW T L n (decide (alk T L a [102, 108, 97, 103] < 4)) (a + alk T L a [102, 108, 97, 103]) (flg T L (a + alk T L a [102, 108, 97, 103])) σ σ' := by
  obtain ⟨σ1, q1, q2, q3, q4, q5⟩ := m_says0 (wi := 1) hL (by omega) ha h
  have ea : alk T L a [102, 108, 97, 103, 32] = if alk T L a [102, 108, 97, 103] = 4 then (4 + if st T L (a + 4) 32 = true then 1 else 0) else alk T L a [102, 108, 97, 103] := alk_app 32 [102, 108, 97, 103] a
  have hl : alk T L a [102, 108, 97, 103] ≤ 4 := (alk_le (T := T) (L := L) [102, 108, 97, 103] a).1
  rw [show gx_tx.getD 1 [] = [102, 108, 97, 103, 32] from rfl, show gx_len 1 = 5 from rfl, ea] at q2
  clear q5
  unfold fX9_readsFlag
  rw [q1, gx_b_some]
  simp only [gx_b_rt]
  have key : ∀ {p : Nat} {σ1 : OS}, p ≤ 80 → mR T L p true n σ1 → fR σ σ1 → (∀ i, i ≤ 4 * n → σ1.2 8 i = σ.2 8 i) → ∃ σ', gx_b (fX9_letter σ1 (1 : Int32)) (fun r8 => gx_b (fX9_letter r8 (2 : Int32)) (fun r13 => fX9_number r13 (3 : Int32) (2 : Int32))) = some σ' ∧ mR T L p true n σ' ∧ fR σ σ' ∧ ∀ i, i ≤ 4 * n → σ'.2 8 i = σ.2 8 i := by
    intro p σ1 hp k1 k2 k3
    obtain ⟨σ2, x1, x2, x3, x4, x5⟩ := m_letter hL hn (k := 1) (by omega) (by omega) k1
    rw [if_neg (fun q => by cases q.1)] at x2
    obtain ⟨σ3, y1, y2, y3, y4, y5⟩ := m_letter hL hn (k := 2) (by omega) (by omega) (b := true) x2
    rw [if_neg (fun q => by cases q.1)] at y2
    obtain ⟨σ4, z1, z2, z3, z4⟩ := m_numw hn (k := 3) (most := 2) (by omega) (a := p) (T := T) (L := L) y2
    rw [show fX9_letter σ1 (1 : Int32) = _ from x1, gx_b_some, show fX9_letter σ2 (2 : Int32) = _ from y1, gx_b_some]
    exact ⟨σ4, z1, z2, fR_tr (fR_tr (fR_tr k2 x4) y4) z3, fun i hi => (z4 i (by omega)).trans ((y5 i (by omega)).trans ((x5 i (by omega)).trans (k3 i hi)))⟩
  by_cases c1 : alk T L a [102, 108, 97, 103] = 4
  · rw [if_pos c1] at q2
    rw [c1, decide_eq_false (show ¬ 4 < 4 by omega)]
    unfold flg
    by_cases c2 : st T L (a + 4) 32 = true
    · rw [if_pos c2, decide_eq_false (show ¬ 4 + 1 < 5 by omega), show a + (4 + 1) = a + 4 + 1 from rfl] at q2
      rw [if_pos c2]
      obtain ⟨σ2, x1, x2, x3, x4, x5⟩ := m_letter hL hn (k := 1) (by omega) (by omega) q2
      by_cases c3 : btw T L (a + 4 + 1) 97 122 = true
      · rw [if_pos ⟨rfl, c3⟩, c3, show (false || !true) = false from rfl] at x2
        rw [if_pos c3]
        obtain ⟨σ3, y1, y2, y3, y4, y5⟩ := m_letter hL hn (k := 2) (by omega) (by omega) x2
        by_cases c4 : btw T L (a + 4 + 2) 97 122 = true
        · rw [if_pos (show false = false ∧ btw T L (a + 4 + 1 + 1) 97 122 = true from ⟨rfl, c4⟩), show btw T L (a + 4 + 1 + 1) 97 122 = true from c4, show (false || !true) = false from rfl] at y2
          rw [if_pos c4]
          obtain ⟨σ4, z1, z2, z3, z4, z5⟩ := m_num hL hn (k := 3) (most := 2) (by omega) (by omega) (by omega) y2
          rw [show fX9_letter σ1 (1 : Int32) = _ from x1, gx_b_some, show fX9_letter σ2 (2 : Int32) = _ from y1, gx_b_some]
          refine ⟨σ4, z1, (fun x => by cases x), fun _ => ⟨z2, fun hk => ⟨?_, fun _ => ?_, fun _ => z3 hk⟩, fR_tr (fR_tr (fR_tr q3 x4) y4) z4, fun i hi => (z5 i (by omega)).trans ((y5 i (by omega)).trans ((x5 i (by omega)).trans (q4 i hi)))⟩⟩
          · exact (z5 _ (by omega)).trans ((y5 _ (by omega)).trans (x3 ⟨rfl, c3⟩))
          · exact (z5 _ (by omega)).trans (y3 ⟨rfl, c4⟩)
        · have cf : btw T L (a + 4 + 1 + 1) 97 122 = false := by
            rcases b_cases (btw T L (a + 4 + 1 + 1) 97 122) with h9 | h9
            · exact absurd h9 c4
            · exact h9
          rw [if_neg (fun q => c4 q.2), cf, show (false || !false) = true from rfl] at y2
          rw [if_neg c4]
          obtain ⟨σ4, z1, z2, z3, z4⟩ := m_numw hn (k := 3) (most := 2) (by omega) y2
          rw [show fX9_letter σ1 (1 : Int32) = _ from x1, gx_b_some, show fX9_letter σ2 (2 : Int32) = _ from y1, gx_b_some]
          exact ⟨σ4, z1, (fun x => by cases x), fun _ => ⟨z2, (fun hk => by cases hk), fR_tr (fR_tr (fR_tr q3 x4) y4) z3, fun i hi => (z4 i (by omega)).trans ((y5 i (by omega)).trans ((x5 i (by omega)).trans (q4 i hi)))⟩⟩
      · have cf : btw T L (a + 4 + 1) 97 122 = false := by
          rcases b_cases (btw T L (a + 4 + 1) 97 122) with h9 | h9
          · exact absurd h9 c3
          · exact h9
        rw [if_neg (fun q => c3 q.2), cf, show (false || !false) = true from rfl] at x2
        rw [if_neg c3]
        obtain ⟨σ3, y1, y2, y3, y4, y5⟩ := m_letter hL hn (k := 2) (by omega) (by omega) (b := true) x2
        rw [if_neg (fun q => by cases q.1)] at y2
        obtain ⟨σ4, z1, z2, z3, z4⟩ := m_numw hn (k := 3) (most := 2) (by omega) (a := a + 4 + 1) (T := T) (L := L) y2
        rw [show fX9_letter σ1 (1 : Int32) = _ from x1, gx_b_some, show fX9_letter σ2 (2 : Int32) = _ from y1, gx_b_some]
        exact ⟨σ4, z1, (fun x => by cases x), fun _ => ⟨z2, (fun hk => by cases hk), fR_tr (fR_tr (fR_tr q3 x4) y4) z3, fun i hi => (z4 i (by omega)).trans ((y5 i (by omega)).trans ((x5 i (by omega)).trans (q4 i hi)))⟩⟩
    · rw [if_neg c2, decide_eq_true (show 4 + 0 < 5 by omega)] at q2
      rw [if_neg c2]
      obtain ⟨σ', k1, k2, k3, k4⟩ := key (by omega) q2 q3 q4
      exact ⟨σ', k1, (fun x => by cases x), fun _ => ⟨k2, (fun hk => by cases hk), k3, k4⟩⟩
  · rw [if_neg c1, decide_eq_true (show alk T L a [102, 108, 97, 103] < 5 by omega)] at q2
    rw [decide_eq_true (show alk T L a [102, 108, 97, 103] < 4 by omega)]
    obtain ⟨σ', k1, k2, k3, k4⟩ := key (by omega) q2 q3 q4
    exact ⟨σ', k1, fun _ => ⟨k2, k3, k4⟩, fun x => by cases x⟩
end Mread2
