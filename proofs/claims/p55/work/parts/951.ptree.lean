/-! the tree: common superiors, ways, refusals -/
section Tree
variable {A : Nat} {R L : Nat → Nat} {P : Nat → Option Nat}
theorem ch_eq (hw : wT A R P) {o : Nat} {l : List Nat} (h : cX P (P o) l) : ch P o = l := cX_uniq _ _ _ (ch_cX hw o).1 h
theorem low_mem (hw : wT A R P) {t : Nat} : ∀ (l : List Nat) (o : Nat), cX P (P o) l → low P t o l = o ∨ low P t o l ∈ l := by
  intro l
  induction l with
  | nil => intro o _; exact Or.inl rfl
  | cons p l ih =>
    intro o h
    unfold low
    by_cases c1 : o = t
    · rw [if_pos c1]; exact Or.inl rfl
    · rw [if_neg c1]
      by_cases c2 : o ∈ ch P t
      · rw [if_pos c2]; exact Or.inl rfl
      · rw [if_neg c2]
        rcases ih p h.2 with e | e
        · rw [e]; exact Or.inr List.mem_cons_self
        · exact Or.inr (List.mem_cons_of_mem _ e)
theorem low_over (hw : wT A R P) {t : Nat} (ht : hv P t = true) : ∀ (l : List Nat) (o : Nat), cX P (P o) l → hv P o = true → low P t o l = t ∨ low P t o l ∈ ch P t := by
  intro l
  induction l with
  | nil =>
    intro o h ho
    have h0 : o = 0 := by
      rcases hv_cases ho with e | ⟨p, e⟩
      · exact e
      · have h9 : P o = none := h
        rw [h9] at e; cases e
    show o = t ∨ o ∈ ch P t
    rcases ch_top hw ht with e | e
    · exact Or.inl (h0.trans e.symm)
    · rw [h0]; exact Or.inr e
  | cons p l ih =>
    intro o h ho
    unfold low
    by_cases c1 : o = t
    · rw [if_pos c1]; exact Or.inl c1
    · rw [if_neg c1]
      by_cases c2 : o ∈ ch P t
      · rw [if_pos c2]; exact Or.inr c2
      · rw [if_neg c2]
        exact ih p h.2 (hw.2.2.2.2.1 o p h.1).2.1
theorem low_first (hw : wT A R P) {t : Nat} : ∀ (l : List Nat) (o : Nat), cX P (P o) l → ∀ z, (z = o ∨ z ∈ l) → (z = t ∨ z ∈ ch P t) → z = low P t o l ∨ z ∈ ch P (low P t o l) := by
  intro l
  induction l with
  | nil =>
    intro o h z hz _
    rcases hz with rfl | hz
    · exact Or.inl rfl
    · cases hz
  | cons p l ih =>
    intro o h z hz hzt
    have e1 := ch_eq hw h
    unfold low
    by_cases c1 : o = t
    · rw [if_pos c1, e1]; exact hz
    · rw [if_neg c1]
      by_cases c2 : o ∈ ch P t
      · rw [if_pos c2, e1]; exact hz
      · rw [if_neg c2]
        refine ih p h.2 z ?_ hzt
        rcases hz with rfl | hz
        · exact absurd hzt (fun q => q.elim c1 c2)
        · rcases List.mem_cons.mp hz with q | q
          · exact Or.inl q
          · exact Or.inr q
theorem low_sym (hw : wT A R P) {a b : Nat} (ha : hv P a = true) (hb : hv P b = true) : low P b a (ch P a) = low P a b (ch P b) := by
  have ca := (ch_cX hw a).1
  have cb := (ch_cX hw b).1
  have x1 := low_mem hw (t := b) _ a ca
  have x2 := low_over hw hb _ a ca ha
  have y1 := low_mem hw (t := a) _ b cb
  have y2 := low_over hw ha _ b cb hb
  have h1 := low_first hw (t := b) _ a ca _ y2 y1
  have h2 := low_first hw (t := a) _ b cb _ x2 x1
  rcases h1 with h1 | h1
  · exact h1.symm
  · rcases h2 with h2 | h2
    · exact h2
    · have r1 := (ch_mem hw h1).2.2
      have r2 := (ch_mem hw h2).2.2
      omega
theorem low_a (hw : wT A R P) {a b : Nat} (ha : hv P a = true) (hb : hv P b = true) : low P b a (ch P a) = a ↔ (a ∈ ch P b ∨ a = b) := by
  constructor
  · intro h
    have h2 := low_over hw hb _ a (ch_cX hw a).1 ha
    rw [h] at h2
    exact h2.symm
  · intro h
    exact low_stop _ h.symm
theorem ch_anti (hw : wT A R P) {a b : Nat} (h : a ∈ ch P b) : b ∉ ch P a ∧ a ≠ b := by
  have r1 := (ch_mem hw h).2.2
  refine ⟨fun q => ?_, fun q => ?_⟩
  · have r2 := (ch_mem hw q).2.2
    omega
  · rw [q] at r1; omega
theorem lea_L (hw : wT A R P) {a b : Nat} (h : a ∈ ch P b) (hL : L b ≤ 100) : lea L a 100 b (ch P b) ≤ L b := by
  have hne := (ch_anti hw h).2
  have h2 : (if L b < 100 then L b else 100) ≤ L b := by split <;> omega
  unfold lea
  rw [if_neg (fun q => hne q.symm)]
  cases e : ch P b with
  | nil => exact h2
  | cons p l => exact Nat.le_trans (lea_le L _ p _) h2
theorem fre_some (hw : wT A R P) {t s : Nat} : ∀ (l : List Nat) (o : Nat) (v : Option Nat), cX P (P o) l → (o = t ∨ t ∈ l) → ∀ q, fre L t s v o l = some q → v = some q ∨ (L q < s ∧ (q = o ∨ q ∈ l) ∧ t ∈ ch P q) := by
  intro l
  induction l with
  | nil =>
    intro o v h ht q hq
    rcases ht with e | e
    · unfold fre at hq
      rw [if_pos e] at hq
      exact Or.inl hq
    · cases e
  | cons p l ih =>
    intro o v h ht q hq
    unfold fre at hq
    by_cases c1 : o = t
    · rw [if_pos c1] at hq; exact Or.inl hq
    · rw [if_neg c1] at hq
      have e1 := ch_eq hw h
      have ht2 : p = t ∨ t ∈ l := by
        rcases ht with e | e
        · exact absurd e c1
        · rcases List.mem_cons.mp e with q | q
          · exact Or.inl q.symm
          · exact Or.inr q
      have htc : t ∈ ch P o := by rw [e1]; exact ht.resolve_left c1
      rcases ih p _ h.2 ht2 q hq with e | ⟨e, f, g⟩
      · by_cases c2 : L o < s
        · rw [if_pos c2] at e
          cases e
          exact Or.inr ⟨c2, Or.inl rfl, htc⟩
        · rw [if_neg c2] at e
          exact Or.inl e
      · refine Or.inr ⟨e, Or.inr ?_, g⟩
        rcases f with f | f
        · rw [f]; exact List.mem_cons_self
        · exact List.mem_cons_of_mem _ f
end Tree
