/-! places by rank: everybody serving has one, each place below their number is somebody's -/
section Rank9
variable {A : Nat} {R L : Nat → Nat} {P : Nat → Option Nat}
theorem sr_lt {f g : Nat → Nat} : ∀ (k i a : Nat), (∀ j, i ≤ j → j < i + k → f j ≤ g j) → i ≤ a → a < i + k → f a < g a → sr f i k < sr g i k := by
  intro k
  induction k with
  | zero => intro i a _ h1 h2; omega
  | succ k ih =>
    intro i a h h1 h2 h3
    have e1 : sr f i (k + 1) = f i + sr f (i + 1) k := rfl
    have e2 : sr g i (k + 1) = g i + sr g (i + 1) k := rfl
    rw [e1, e2]
    by_cases c : a = i
    · have := sr_le (f := f) (g := g) k (i + 1) (fun j hj hk => h j (by omega) (by omega))
      rw [c] at h3
      omega
    · have := ih (i + 1) a (fun j hj hk => h j (by omega) (by omega)) (by omega) (by omega) h3
      have := h i (by omega) (by omega)
      omega
theorem sr_full {f : Nat → Nat} : ∀ (k i : Nat), (∀ j, i ≤ j → j < i + k → f j ≤ 1) → k ≤ sr f i k → ∀ j, i ≤ j → j < i + k → f j = 1 := by
  intro k
  induction k with
  | zero => intro i _ _ j h1 h2; omega
  | succ k ih =>
    intro i h hs j h1 h2
    have e1 : sr f i (k + 1) = f i + sr f (i + 1) k := rfl
    have hi := h i (by omega) (by omega)
    have hr : sr f (i + 1) k ≤ 1 * k := by
      have := sr_le (f := f) (g := fun _ => 1) k (i + 1) (fun j hj hk => h j (by omega) (by omega))
      rw [sr_k] at this
      exact this
    rw [e1] at hs
    by_cases c : j = i
    · rw [c]; omega
    · exact ih (i + 1) (fun j hj hk => h j (by omega) (by omega)) (by omega) j (by omega) (by omega)
theorem sr_pos {f : Nat → Nat} : ∀ (k i : Nat), 0 < sr f i k → ∃ j, i ≤ j ∧ j < i + k ∧ 0 < f j := by
  intro k
  induction k with
  | zero => intro i h; exact absurd h (Nat.lt_irrefl _)
  | succ k ih =>
    intro i h
    have e1 : sr f i (k + 1) = f i + sr f (i + 1) k := rfl
    rw [e1] at h
    by_cases c : 0 < f i
    · exact ⟨i, by omega, by omega, c⟩
    · obtain ⟨j, h1, h2, h3⟩ := ih (i + 1) (by omega)
      exact ⟨j, by omega, by omega, h3⟩
theorem sr_uni {Q : Nat → Prop} [DecidablePred Q] (hq : ∀ a b, Q a → Q b → a = b) : ∀ (k i : Nat), sr (fun o => i1 (Q o)) i k ≤ 1 := by
  intro k
  induction k with
  | zero => intro i; exact Nat.zero_le _
  | succ k ih =>
    intro i
    have e1 : sr (fun o => i1 (Q o)) i (k + 1) = i1 (Q i) + sr (fun o => i1 (Q o)) (i + 1) k := rfl
    rw [e1]
    by_cases c : Q i
    · have : sr (fun o => i1 (Q o)) (i + 1) k = 0 := by
        rw [sr_congr (g := fun _ => 0) k (i + 1) (fun j h1 h2 => i1_f (fun q => by have := hq _ _ c q; omega)), sr_0]
      rw [this, i1_t c]
      exact Nat.le_refl _
    · rw [i1_f c, Nat.zero_add]
      exact ih (i + 1)
theorem ahd_tr {a b c : Nat} (h1 : ahd R L a b = true) (h2 : ahd R L b c = true) : ahd R L a c = true := by
  unfold ahd at *
  by_cases r1 : R a = R b
  · rw [if_pos r1] at h1
    by_cases r2 : R b = R c
    · rw [if_pos r2] at h2
      rw [if_pos (r1.trans r2)]
      by_cases l1 : L a = L b
      · rw [if_pos l1] at h1
        by_cases l2 : L b = L c
        · rw [if_pos l2] at h2
          rw [if_pos (l1.trans l2)]
          have := of_decide_eq_true h1
          have := of_decide_eq_true h2
          exact decide_eq_true (by omega)
        · rw [if_neg l2] at h2
          rw [if_neg (by omega)]
          have := of_decide_eq_true h2
          exact decide_eq_true (by omega)
      · rw [if_neg l1] at h1
        have x1 := of_decide_eq_true h1
        by_cases l2 : L b = L c
        · rw [if_neg (by omega)]
          exact decide_eq_true (by omega)
        · rw [if_neg l2] at h2
          have x2 := of_decide_eq_true h2
          rw [if_neg (by omega)]
          exact decide_eq_true (by omega)
    · rw [if_neg r2] at h2
      have x2 := of_decide_eq_true h2
      rw [if_neg (by omega)]
      exact decide_eq_true (by omega)
  · rw [if_neg r1] at h1
    have x1 := of_decide_eq_true h1
    by_cases r2 : R b = R c
    · rw [if_neg (by omega)]
      exact decide_eq_true (by omega)
    · rw [if_neg r2] at h2
      have x2 := of_decide_eq_true h2
      rw [if_neg (by omega)]
      exact decide_eq_true (by omega)
theorem ahd_tot {a b : Nat} (h : a ≠ b) : ahd R L a b = true ∨ ahd R L b a = true := by
  unfold ahd
  by_cases r1 : R a = R b
  · rw [if_pos r1, if_pos r1.symm]
    by_cases l1 : L a = L b
    · rw [if_pos l1, if_pos l1.symm]
      rcases Nat.lt_or_gt_of_ne h with q | q
      · exact Or.inl (decide_eq_true q)
      · exact Or.inr (decide_eq_true q)
    · rw [if_neg l1, if_neg (fun q => l1 q.symm)]
      rcases Nat.lt_or_gt_of_ne l1 with q | q
      · exact Or.inr (decide_eq_true q)
      · exact Or.inl (decide_eq_true q)
  · rw [if_neg r1, if_neg (fun q => r1 q.symm)]
    rcases Nat.lt_or_gt_of_ne r1 with q | q
    · exact Or.inr (decide_eq_true q)
    · exact Or.inl (decide_eq_true q)
theorem cbf_mono {a b : Nat} (haA : a < A) (ha : hv P a = true) (h : ahd R L a b = true) : cbf A R L P a < cbf A R L P b := by
  unfold cbf
  refine sr_lt A 0 a (fun j _ _ => ?_) (Nat.zero_le _) (by omega) ?_
  · by_cases c : hv P j = true ∧ ahd R L j a = true
    · rw [i1_t c, i1_t ⟨c.1, ahd_tr c.2 h⟩]
      exact Nat.le_refl _
    · rw [i1_f c]
      exact Nat.zero_le _
  · rw [i1_f (fun q => by have := q.2; rw [ahd_self] at this; cases this), i1_t ⟨ha, h⟩]
    exact Nat.zero_lt_one
theorem cbf_inj {a b : Nat} (haA : a < A) (hbA : b < A) (ha : hv P a = true) (hb : hv P b = true) (h : cbf A R L P a = cbf A R L P b) : a = b := by
  rcases Decidable.em (a = b) with q | q
  · exact q
  · rcases ahd_tot (R := R) (L := L) q with z | z
    · have := cbf_mono haA ha z; omega
    · have := cbf_mono hbA hb z; omega
theorem cbf_lt {a : Nat} (haA : a < A) (ha : hv P a = true) : cbf A R L P a < sr (fun o => i1 (hv P o = true)) 0 A := by
  unfold cbf
  refine sr_lt A 0 a (fun j _ _ => ?_) (Nat.zero_le _) (by omega) ?_
  · by_cases c : hv P j = true ∧ ahd R L j a = true
    · rw [i1_t c, i1_t c.1]
      exact Nat.le_refl _
    · rw [i1_f c]
      exact Nat.zero_le _
  · rw [i1_f (fun q => by have := q.2; rw [ahd_self] at this; cases this), i1_t ha]
    exact Nat.zero_lt_one
theorem cbf_onto (hw : wT A R P) {p : Nat} (hp : p < sr (fun o => i1 (hv P o = true)) 0 A) : ∃ a, a < A ∧ hv P a = true ∧ cbf A R L P a = p := by
  have hs : sr (fun p => sr (fun o => i1 (hv P o = true ∧ cbf A R L P o = p)) 0 A) 0 (sr (fun o => i1 (hv P o = true)) 0 A) = sr (fun o => i1 (hv P o = true)) 0 A := by
    rw [sr_swap]
    refine sr_congr A 0 (fun o _ ho => ?_)
    by_cases c : hv P o = true
    · have e1 : sr (fun a => i1 (hv P o = true ∧ cbf A R L P o = a)) 0 (sr (fun o => i1 (hv P o = true)) 0 A) = sr (fun a => if a = cbf A R L P o then 1 else 0) 0 (sr (fun o => i1 (hv P o = true)) 0 A) := by
        refine sr_congr _ 0 (fun j _ _ => ?_)
        by_cases c2 : j = cbf A R L P o
        · rw [if_pos c2, i1_t ⟨c, c2.symm⟩]
        · rw [if_neg c2, i1_f (fun q => c2 q.2.symm)]
      rw [e1, sr_one, if_pos ⟨Nat.zero_le _, by have := cbf_lt (R := R) (L := L) (show o < A by omega) c; omega⟩, i1_t c]
    · have e1 : sr (fun a => i1 (hv P o = true ∧ cbf A R L P o = a)) 0 (sr (fun o => i1 (hv P o = true)) 0 A) = sr (fun _ => 0) 0 (sr (fun o => i1 (hv P o = true)) 0 A) := sr_congr _ 0 (fun j _ _ => i1_f (fun q => c q.1))
      rw [e1, sr_0, i1_f c]
  have h1 := sr_full (f := fun p => sr (fun o => i1 (hv P o = true ∧ cbf A R L P o = p)) 0 A) (sr (fun o => i1 (hv P o = true)) 0 A) 0 (fun j _ _ => sr_uni (Q := fun o => hv P o = true ∧ cbf A R L P o = j) (fun a b q1 q2 => cbf_inj (hv_lt hw q1.1) (hv_lt hw q2.1) q1.1 q2.1 (q1.2.trans q2.2.symm)) A 0) (Nat.le_of_eq hs.symm) p (Nat.zero_le _) (by omega)
  obtain ⟨j, j1, j2, j3⟩ := sr_pos (f := fun o => i1 (hv P o = true ∧ cbf A R L P o = p)) A 0 (by
    have h2 : sr (fun o => i1 (hv P o = true ∧ cbf A R L P o = p)) 0 A = 1 := h1
    omega)
  have hj : hv P j = true ∧ cbf A R L P j = p := by
    rcases Decidable.em (hv P j = true ∧ cbf A R L P j = p) with q | q
    · exact q
    · have j4 : 0 < i1 (hv P j = true ∧ cbf A R L P j = p) := j3
      rw [i1_f q] at j4
      exact absurd j4 (Nat.lt_irrefl _)
  exact ⟨j, by omega, hj⟩
theorem atp_spec (p : Int32) : ∀ (k i q : Nat), atp A R L P p i k = some q → hv P q = true ∧ nI (cbf A R L P q) = p := by
  intro k
  induction k with
  | zero => intro i q h; cases h
  | succ k ih =>
    intro i q h
    unfold atp at h
    by_cases c : hv P i = true ∧ nI (cbf A R L P i) = p
    · rw [if_pos c] at h
      cases h
      exact c
    · rw [if_neg c] at h
      exact ih _ q h
theorem atp_some (p : Int32) : ∀ (k i a : Nat), i ≤ a → a < i + k → hv P a = true → nI (cbf A R L P a) = p → ∃ q, atp A R L P p i k = some q := by
  intro k
  induction k with
  | zero => intro i a h1 h2; omega
  | succ k ih =>
    intro i a h1 h2 h3 h4
    unfold atp
    by_cases c : hv P i = true ∧ nI (cbf A R L P i) = p
    · rw [if_pos c]; exact ⟨i, rfl⟩
    · rw [if_neg c]
      have : a ≠ i := fun q => c (by rw [← q]; exact ⟨h3, h4⟩)
      exact ih (i + 1) a (by omega) (by omega) h3 h4
/-- who stands at a place -/
theorem atp_at (hw : wT A R P) {p : Nat} (hp : p < sr (fun o => i1 (hv P o = true)) 0 A) : ∃ q, atp A R L P (nI p) 0 A = some q ∧ hv P q = true ∧ cbf A R L P q = p := by
  have hA := hw.2.1
  obtain ⟨a, h1, h2, h3⟩ := cbf_onto (L := L) hw hp
  obtain ⟨q, hq⟩ := atp_some (R := R) (L := L) (P := P) (A := A) (nI p) A 0 a (Nat.zero_le _) (by omega) h2 (by rw [h3])
  obtain ⟨q1, q2⟩ := atp_spec (nI p) A 0 q hq
  have hc := cbf_lt (R := R) (L := L) (hv_lt hw q1) q1
  have hn : sr (fun o => i1 (hv P o = true)) 0 A ≤ 1 * A := by
    have := sr_le (f := fun o => i1 (hv P o = true)) (g := fun _ => 1) A 0 (fun j _ _ => by simp only [i1]; split <;> omega)
    rw [sr_k] at this
    exact this
  exact ⟨q, hq, q1, (nI_eq (by omega) (by omega)).mp q2⟩
theorem atp_no (hw : wT A R P) : atp A R L P (nI (sr (fun o => i1 (hv P o = true)) 0 A)) 0 A = none := by
  have hA := hw.2.1
  have hn : sr (fun o => i1 (hv P o = true)) 0 A ≤ 1 * A := by
    have := sr_le (f := fun o => i1 (hv P o = true)) (g := fun _ => 1) A 0 (fun j _ _ => by simp only [i1]; split <;> omega)
    rw [sr_k] at this
    exact this
  cases e : atp A R L P (nI (sr (fun o => i1 (hv P o = true)) 0 A)) 0 A with
  | none => rfl
  | some q =>
    obtain ⟨q1, q2⟩ := atp_spec _ A 0 q e
    have hc := cbf_lt (R := R) (L := L) (hv_lt hw q1) q1
    have := (nI_eq (by omega) (by omega)).mp q2
    omega
/-- two that follow each other -/
theorem ahd_next {a b : Nat} (haA : a < A) (hbA : b < A) (hb : hv P b = true) (h : cbf A R L P a < cbf A R L P b) : ¬ R a < R b ∧ (R a = R b → ¬ L a < L b ∧ (L a = L b → a ≤ b)) := by
  have hn : ahd R L b a = false := by
    cases e : ahd R L b a with
    | false => rfl
    | true => have := cbf_mono (P := P) hbA hb e; omega
  unfold ahd at hn
  refine ⟨fun q => ?_, fun q => ⟨fun q2 => ?_, fun q2 => ?_⟩⟩
  · rw [if_neg (by omega)] at hn
    exact absurd q (of_decide_eq_false hn)
  · rw [if_pos q.symm, if_neg (by omega)] at hn
    exact absurd q2 (of_decide_eq_false hn)
  · rw [if_pos q.symm, if_pos q2.symm] at hn
    have := of_decide_eq_false hn
    omega
/-- the admiral commands all -/
theorem siz_0 (hw : wT A R P) : siz A P 0 = sr (fun o => i1 (hv P o = true)) 0 A := by
  have h1 : sr (fun o => i1 (hv P o = true)) 0 A = sr (fun o => (if o = 0 then 1 else 0) + i1 (0 ∈ ch P o)) 0 A := by
    refine sr_congr A 0 (fun o _ _ => ?_)
    by_cases c : o = 0
    · subst c
      rw [if_pos rfl, i1_t (hv_0 P), i1_f (ch_self hw 0)]
    · rw [if_neg c, Nat.zero_add]
      by_cases c2 : hv P o = true
      · rw [i1_t c2, i1_t ((ch_top hw c2).resolve_left c)]
      · have hP := (hv_no (Bool.eq_false_iff.mpr c2)).2
        rw [i1_f c2, i1_f (by rw [ch_none hP]; exact List.not_mem_nil)]
  rw [h1, sr_add, sr_one, if_pos ⟨Nat.le_refl _, by have := hw.1; omega⟩]
  rfl
end Rank9
