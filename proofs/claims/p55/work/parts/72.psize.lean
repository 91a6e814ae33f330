/-! sums over the officers; sizes of commands; the search from above -/
def sr (f : Nat → Nat) : Nat → Nat → Nat
  | _, 0 => 0
  | i, k + 1 => f i + sr f (i + 1) k
theorem sr_congr {f g : Nat → Nat} : ∀ (k i : Nat), (∀ j, i ≤ j → j < i + k → f j = g j) → sr f i k = sr g i k := by
  intro k
  induction k with
  | zero => intro i _; rfl
  | succ k ih =>
    intro i h
    simp only [sr]
    rw [h i (Nat.le_refl _) (by omega), ih (i + 1) (fun j h1 h2 => h j (by omega) (by omega))]
theorem sr_add (f g : Nat → Nat) : ∀ (k i : Nat), sr (fun j => f j + g j) i k = sr f i k + sr g i k := by
  intro k
  induction k with
  | zero => intro i; rfl
  | succ k ih => intro i; simp only [sr, ih (i + 1)]; omega
theorem sr_0 : ∀ (k i : Nat), sr (fun _ => 0) i k = 0 := by
  intro k
  induction k with
  | zero => intro i; rfl
  | succ k ih => intro i; simp only [sr, ih (i + 1)]
theorem sr_one (a x : Nat) : ∀ (k i : Nat), sr (fun c => if c = a then x else 0) i k = if i ≤ a ∧ a < i + k then x else 0 := by
  intro k
  induction k with
  | zero => intro i; rw [if_neg (by omega)]; rfl
  | succ k ih =>
    intro i
    simp only [sr, ih (i + 1)]
    by_cases e : i = a
    · rw [if_pos e, if_neg (by omega), if_pos (by omega)]; omega
    · rw [if_neg e]
      by_cases e2 : i + 1 ≤ a ∧ a < i + 1 + k
      · rw [if_pos e2, if_pos (by omega)]; omega
      · rw [if_neg e2, if_neg (by omega)]
theorem sr_swap (f : Nat → Nat → Nat) : ∀ (k i m j : Nat), sr (fun a => sr (fun b => f a b) j m) i k = sr (fun b => sr (fun a => f a b) i k) j m := by
  intro k
  induction k with
  | zero => intro i m j; simp only [sr]; exact (sr_0 m j).symm
  | succ k ih =>
    intro i m j
    simp only [sr]
    rw [ih (i + 1) m j, ← sr_add]
theorem sr_le {f g : Nat → Nat} : ∀ (k i : Nat), (∀ j, i ≤ j → j < i + k → f j ≤ g j) → sr f i k ≤ sr g i k := by
  intro k
  induction k with
  | zero => intro i _; exact Nat.le_refl _
  | succ k ih =>
    intro i h
    simp only [sr]
    have h1 := h i (Nat.le_refl _) (by omega)
    have h2 := ih (i + 1) (fun j h1 h2 => h j (by omega) (by omega))
    omega
theorem sr_k (c : Nat) : ∀ (k i : Nat), sr (fun _ => c) i k = c * k := by
  intro k
  induction k with
  | zero => intro i; rfl
  | succ k ih => intro i; simp only [sr, ih (i + 1), Nat.mul_succ]; omega
def i1 (p : Prop) [Decidable p] : Nat := if p then 1 else 0
theorem i1_t {p : Prop} [Decidable p] (h : p) : i1 p = 1 := if_pos h
theorem i1_f {p : Prop} [Decidable p] (h : ¬ p) : i1 p = 0 := if_neg h
/-- the size of a command -/
def siz (A : Nat) (P : Nat → Option Nat) (o : Nat) : Nat := 1 + sr (fun q => i1 (o ∈ ch P q)) 0 A
section Size
variable {A : Nat} {R L F : Nat → Nat} {P : Nat → Option Nat} {σ : OS}
theorem siz_le (hA : A ≤ 12) (o : Nat) : siz A P o ≤ 13 := by
  unfold siz
  have h := sr_le (f := fun q => i1 (o ∈ ch P q)) (g := fun _ => 1) A 0 (fun j _ _ => by simp only [i1]; split <;> omega)
  rw [sr_k] at h
  omega
theorem siz_ch (hw : wT A R P) (o : Nat) : ∀ (l : List Nat) (q : Nat), q < A → cX P (P q) l → sr (fun c => if P c = some o then i1 (c = q ∨ c ∈ l) else 0) 0 A = i1 (o ∈ l) := by
  intro l
  induction l with
  | nil =>
    intro q hq hc
    have e : P q = none := hc
    rw [i1_f (by simp)]
    refine (sr_congr (g := fun _ => 0) A 0 (fun j _ _ => ?_)).trans (sr_0 A 0)
    by_cases h : P j = some o
    · rw [if_pos h, i1_f]
      simp only [List.not_mem_nil, or_false]
      intro hj
      rw [hj, e] at h
      cases h
    · rw [if_neg h]
  | cons p l ih =>
    intro q hq hc
    obtain ⟨g1, g2, g3⟩ := hw.2.2.2.2.1 q p hc.1
    have hnq : q ≠ p := fun e => by rw [e] at g3; exact Nat.lt_irrefl _ g3
    have hml := cX_mem hw l p hc.2
    have hqn : q ∉ p :: l := by
      intro h
      rcases List.mem_cons.mp h with h | h
      · exact hnq h
      · have := (hml q h).2.2
        omega
    have hpl : p ∉ l := fun h => Nat.lt_irrefl _ (hml p h).2.2
    have h2 : sr (fun c => if P c = some o then i1 (c = q ∨ c ∈ p :: l) else 0) 0 A = sr (fun c => (if c = q then (if P q = some o then 1 else 0) else 0) + (if P c = some o then i1 (c = p ∨ c ∈ l) else 0)) 0 A := by
      refine sr_congr A 0 (fun j _ _ => ?_)
      by_cases hj : j = q
      · subst hj
        rw [if_pos rfl]
        by_cases h : P j = some o
        · rw [if_pos h, if_pos h, i1_t (Or.inl rfl), if_pos h, i1_f (fun h9 => hqn (List.mem_cons.mpr h9))]
        · rw [if_neg h, if_neg h, if_neg h]
      · rw [if_neg hj, Nat.zero_add]
        by_cases h : P j = some o
        · rw [if_pos h, if_pos h]
          by_cases h9 : j = p ∨ j ∈ l
          · rw [i1_t h9, i1_t (Or.inr (List.mem_cons.mpr h9))]
          · rw [i1_f h9, i1_f (fun h8 => h8.elim hj (fun h8 => h9 (List.mem_cons.mp h8)))]
        · rw [if_neg h, if_neg h]
    rw [h2, sr_add, sr_one, if_pos ⟨Nat.zero_le _, by omega⟩, ih p g1 hc.2, hc.1]
    by_cases h : p = o
    · subst h
      rw [if_pos rfl, i1_f hpl, i1_t List.mem_cons_self]
    · rw [if_neg (fun h9 => h (Option.some.inj h9)), Nat.zero_add]
      by_cases h9 : o ∈ l
      · rw [i1_t h9, i1_t (List.mem_cons_of_mem _ h9)]
      · rw [i1_f h9, i1_f (fun h8 => (List.mem_cons.mp h8).elim (fun h7 => h h7.symm) h9)]
theorem siz_rec (hw : wT A R P) (o : Nat) : siz A P o = 1 + sr (fun c => if P c = some o then siz A P c else 0) 0 A := by
  conv => lhs; unfold siz
  congr 1
  have h1 : sr (fun q => i1 (o ∈ ch P q)) 0 A = sr (fun q => sr (fun c => if P c = some o then i1 (c = q ∨ c ∈ ch P q) else 0) 0 A) 0 A := by
    refine sr_congr A 0 (fun q _ hq => ?_)
    exact (siz_ch hw o (ch P q) q (by omega) (ch_cX hw q).1).symm
  rw [h1, sr_swap]
  refine sr_congr A 0 (fun c _ hc => ?_)
  by_cases h : P c = some o
  · simp only [if_pos h]
    unfold siz
    have h2 : sr (fun a => i1 (c = a ∨ c ∈ ch P a)) 0 A = sr (fun a => (if a = c then 1 else 0) + i1 (c ∈ ch P a)) 0 A := by
      refine sr_congr A 0 (fun a _ ha => ?_)
      by_cases e : a = c
      · subst e
        rw [if_pos rfl, i1_t (Or.inl rfl), i1_f (ch_self hw a)]
      · rw [if_neg e, Nat.zero_add]
        by_cases e2 : c ∈ ch P a
        · rw [i1_t (Or.inr e2), i1_t e2]
        · rw [i1_f e2, i1_f (fun h8 => h8.elim (fun h7 => e h7.symm) e2)]
    rw [h2, sr_add, sr_one, if_pos ⟨Nat.zero_le _, by omega⟩]
  · simp only [if_neg h]
    exact sr_0 A 0
/-! the loops of both sides over the officers -/
theorem m_A (h : zM A R L F P (σ.2 1)) : os_a σ 1 (0 : Int32).toNatClampNeg = nI A := by rw [tc0]; exact h.1
theorem c_A (h : zO A R L F P σ) : os_f σ 5 = nI A := h.1
theorem ab_t {t : Nat} {l : List Nat} (h : t ∈ l) : aB t l = 1 := by simp [aB, b1, h]
theorem ab_f {t : Nat} {l : List Nat} (h : t ∉ l) : aB t l = 0 := by simp [aB, b1, h]
theorem m_many4 (hA : A ≤ 12) (h : zM A R L F P (σ.2 1)) : ∀ (k i v n : Nat), i + k = A → k < n → fX9_many_4 σ n (nI v) (nI i) = some (nI (v + sr (fun o => i1 (hv P o = true)) i k)) := by
  intro k
  induction k with
  | zero =>
    intro i v n hi hn
    obtain ⟨m, rfl⟩ : ∃ m, n = m + 1 := ⟨n - 1, by omega⟩
    rw [fX9_many_4_s, gx_chk_t gi0, m_A h, n_le (by omega) (by omega), if_pos (by omega)]
    rfl
  | succ k ih =>
    intro i v n hi hn
    obtain ⟨m, rfl⟩ : ∃ m, n = m + 1 := ⟨n - 1, by omega⟩
    have e : nI v + b1 (hv P i) = nI (v + i1 (hv P i = true)) := by
      cases hv P i with
      | true => rw [b1_t, i1_t rfl, nI_1]
      | false => rw [b1_f, i1_f (by decide), Nat.add_zero]; exact Int32.add_zero _
    rw [fX9_many_4_s, gx_chk_t gi0, m_A h, n_le (by omega) (by omega), if_neg (by omega), m_of0 hA h (by omega), gx_b_some, e, nI_1, ih (i + 1) _ m (by omega) (by omega)]
    simp only [sr]
    congr 2
    omega
theorem m_many (hw : wT A R P) (h : zM A R L F P (σ.2 1)) : fX9_many σ = some (nI (sr (fun o => i1 (hv P o = true)) 0 A)) := by
  have hA := hw.2.1
  unfold fX9_many
  rw [show (0 : Int32) = nI 0 from rfl, m_many4 hA h A 0 0 2000 (by omega) (by omega), Nat.zero_add]
theorem c_cserv4 (hw : wT A R P) (h : zO A R L F P σ) : ∀ (k i v n : Nat), i + k = A → k < n → fX3_countServing_4 σ n (nI v) (nI i) = some (nI (v + sr (fun o => i1 (hv P o = true)) i k)) := by
  have hA := hw.2.1
  intro k
  induction k with
  | zero =>
    intro i v n hi hn
    obtain ⟨m, rfl⟩ : ∃ m, n = m + 1 := ⟨n - 1, by omega⟩
    rw [fX3_countServing_4_s, c_A h, n_le (by omega) (by omega), if_pos (by omega)]
    rfl
  | succ k ih =>
    intro i v n hi hn
    obtain ⟨m, rfl⟩ : ∃ m, n = m + 1 := ⟨n - 1, by omega⟩
    rw [fX3_countServing_4_s, c_A h, n_le (by omega) (by omega), if_neg (by omega), gx_chk_t (nI_in (by omega) (by decide)), c_srv hw h (by omega)]
    simp only [sr]
    cases e : hv P i with
    | true => rw [b1_t, if_neg (by decide), nI_1, nI_1, ih (i + 1) (v + 1) m (by omega) (by omega), i1_t rfl]; congr 2; omega
    | false => rw [b1_f, if_pos rfl, nI_1, ih (i + 1) v m (by omega) (by omega), i1_f (by decide)]; congr 2; omega
theorem c_cserv (hw : wT A R P) (h : zO A R L F P σ) : fX3_countServing σ = some (nI (sr (fun o => i1 (hv P o = true)) 0 A)) := by
  have hA := hw.2.1
  unfold fX3_countServing
  rw [show (0 : Int32) = nI 0 from rfl, c_cserv4 hw h A 0 0 2000 (by omega) (by omega), Nat.zero_add]
theorem c_sum4 (hw : wT A R P) (h : zO A R L F P σ) : ∀ (k i v n : Nat), i + k = A → k < n → fX3_sumLoyalty_4 σ n (nI v) (nI i) = some (nI (v + sr (fun o => if hv P o = true then L o else 0) i k)) := by
  have hA := hw.2.1
  intro k
  induction k with
  | zero =>
    intro i v n hi hn
    obtain ⟨m, rfl⟩ : ∃ m, n = m + 1 := ⟨n - 1, by omega⟩
    rw [fX3_sumLoyalty_4_s, c_A h, n_le (by omega) (by omega), if_pos (by omega)]
    rfl
  | succ k ih =>
    intro i v n hi hn
    obtain ⟨m, rfl⟩ : ∃ m, n = m + 1 := ⟨n - 1, by omega⟩
    rw [fX3_sumLoyalty_4_s, c_A h, n_le (by omega) (by omega), if_neg (by omega), gx_chk_t (nI_in (by omega) (by decide)), c_srv hw h (by omega)]
    simp only [sr]
    cases e : hv P i with
    | true => rw [b1_t, if_neg (by decide), gx_chk_t (nI_in (by omega) (by decide)), c_loy hA h (by omega), nI_add, nI_1, ih (i + 1) _ m (by omega) (by omega), if_pos rfl]; congr 2; omega
    | false => rw [b1_f, if_pos rfl, nI_1, ih (i + 1) v m (by omega) (by omega), if_neg (by decide)]; congr 2; omega
theorem c_sum (hw : wT A R P) (h : zO A R L F P σ) : fX3_sumLoyalty σ = some (nI (sr (fun o => if hv P o = true then L o else 0) 0 A)) := by
  have hA := hw.2.1
  unfold fX3_sumLoyalty
  rw [show (0 : Int32) = nI 0 from rfl, c_sum4 hw h A 0 0 2000 (by omega) (by omega), Nat.zero_add]
theorem c_csub4 (hw : wT A R P) (h : zO A R L F P σ) {t : Nat} (ht : t < 2 ^ 31) : ∀ (k i v n : Nat), i + k = A → k < n → fX3_countSubordinates_4 σ n (nI t) (nI v) (nI i) = some (nI (v + sr (fun o => i1 (P o = some t)) i k)) := by
  have hA := hw.2.1
  intro k
  induction k with
  | zero =>
    intro i v n hi hn
    obtain ⟨m, rfl⟩ : ∃ m, n = m + 1 := ⟨n - 1, by omega⟩
    rw [fX3_countSubordinates_4_s, c_A h, n_le (by omega) (by omega), if_pos (by omega)]
    rfl
  | succ k ih =>
    intro i v n hi hn
    obtain ⟨m, rfl⟩ : ∃ m, n = m + 1 := ⟨n - 1, by omega⟩
    rw [fX3_countSubordinates_4_s, c_A h, n_le (by omega) (by omega), if_neg (by omega), gx_chk_t (nI_in (by omega) (by decide)), c_sup hA h (by omega)]
    simp only [sr]
    cases e : P i with
    | none =>
      rw [show pI none = -1 from rfl, if_neg (fun q => n_m1 ht q.symm), nI_1, ih (i + 1) v m (by omega) (by omega), i1_f (fun h9 => by cases h9)]; congr 2; omega
    | some p =>
      have hp := (hw.2.2.2.2.1 i p e).1
      rw [show pI (some p) = nI p from rfl]
      by_cases e2 : p = t
      · rw [if_pos (by rw [e2]), nI_1, nI_1, ih (i + 1) (v + 1) m (by omega) (by omega), i1_t (by rw [e2])]; congr 2; omega
      · rw [if_neg (fun q => e2 ((nI_eq (by omega) ht).mp q)), nI_1, ih (i + 1) v m (by omega) (by omega), i1_f (fun h9 => e2 (Option.some.inj h9))]; congr 2; omega
theorem c_csub (hw : wT A R P) (h : zO A R L F P σ) {t : Nat} (ht : t < 2 ^ 31) : fX3_countSubordinates σ (nI t) = some (nI (sr (fun o => i1 (P o = some t)) 0 A)) := by
  have hA := hw.2.1
  unfold fX3_countSubordinates
  rw [show (0 : Int32) = nI 0 from rfl, c_csub4 hw h ht A 0 0 2000 (by omega) (by omega), Nat.zero_add]
theorem m_under4 (hw : wT A R P) (h : zM A R L F P (σ.2 1)) {t : Nat} (ht : t < 2 ^ 31) : ∀ (k i v n : Nat), i + k = A → k < n → fX9_under_4 σ n (nI t) (nI v) (nI i) = some (nI (v + sr (fun o => i1 (P o = some t)) i k)) := by
  have hA := hw.2.1
  intro k
  induction k with
  | zero =>
    intro i v n hi hn
    obtain ⟨m, rfl⟩ : ∃ m, n = m + 1 := ⟨n - 1, by omega⟩
    rw [fX9_under_4_s, gx_chk_t gi0, m_A h, n_le (by omega) (by omega), if_pos (by omega)]
    rfl
  | succ k ih =>
    intro i v n hi hn
    obtain ⟨m, rfl⟩ : ∃ m, n = m + 1 := ⟨n - 1, by omega⟩
    rw [fX9_under_4_s, gx_chk_t gi0, m_A h, n_le (by omega) (by omega), if_neg (by omega), m_of0 hA h (by omega), gx_b_some, m_of4 hA h (by omega), gx_b_some, show (0 : Int32) = nI 0 from rfl, show (1 : Int32) = nI 1 from rfl, nI_add, nI_add, nI_add]
    simp only [sr]
    cases e : P i with
    | none =>
      rw [show pI none = -1 from rfl, if_neg (show ¬ (-1 : Int32) = nI t from fun q => n_m1 ht q.symm), ite_self, ih (i + 1) _ m (by omega) (by omega), i1_f (fun h9 => by cases h9)]; congr 2; omega
    | some p =>
      have hp := (hw.2.2.2.2.1 i p e).1
      rw [show pI (some p) = nI p from rfl, hv_some e, b1_t, if_pos (show (1 : Int32) = nI 1 from rfl)]
      by_cases e2 : p = t
      · rw [if_pos (by rw [e2]), ih (i + 1) (v + 1) m (by omega) (by omega), i1_t (by rw [e2])]; congr 2; omega
      · rw [if_neg (fun q => e2 ((nI_eq (by omega) ht).mp q)), ih (i + 1) _ m (by omega) (by omega), i1_f (fun h9 => e2 (Option.some.inj h9))]; congr 2; omega
theorem m_under (hw : wT A R P) (h : zM A R L F P (σ.2 1)) {t : Nat} (ht : t < 2 ^ 31) : fX9_under σ (nI t) = some (nI (sr (fun o => i1 (P o = some t)) 0 A)) := by
  have hA := hw.2.1
  unfold fX9_under
  rw [show (0 : Int32) = nI 0 from rfl, m_under4 hw h ht A 0 0 2000 (by omega) (by omega), Nat.zero_add]
theorem m_cmd4 (hw : wT A R P) (h : zM A R L F P (σ.2 1)) {t : Nat} (ht : t < 2 ^ 31) : ∀ (k i v n : Nat), i + k = A → k < n → fX9_commanded_4 σ n (nI t) (nI v) (nI i) = some (nI (v + sr (fun o => i1 (t ∈ ch P o)) i k)) := by
  have hA := hw.2.1
  intro k
  induction k with
  | zero =>
    intro i v n hi hn
    obtain ⟨m, rfl⟩ : ∃ m, n = m + 1 := ⟨n - 1, by omega⟩
    rw [fX9_commanded_4_s, gx_chk_t gi0, m_A h, n_le (by omega) (by omega), if_pos (by omega)]
    rfl
  | succ k ih =>
    intro i v n hi hn
    obtain ⟨m, rfl⟩ : ∃ m, n = m + 1 := ⟨n - 1, by omega⟩
    rw [fX9_commanded_4_s, gx_chk_t gi0, m_A h, n_le (by omega) (by omega), if_neg (by omega), m_of0 hA h (by omega), gx_b_some, m_above hw h ht (by omega), gx_b_some]
    simp only [sr]
    by_cases e : t ∈ ch P i
    · have e2 : hv P i = true := by
        cases e3 : P i with
        | none => rw [ch_none e3] at e; cases e
        | some p => exact hv_some e3
      rw [e2, b1_t, if_pos rfl, ab_t e, if_neg (by decide), nI_1, nI_1, ih (i + 1) _ m (by omega) (by omega), i1_t e]; congr 2; omega
    · rw [ab_f e, if_pos rfl, ite_self, i1_f e, show (0 : Int32) = nI 0 from rfl, nI_add, nI_1, ih (i + 1) _ m (by omega) (by omega)]; congr 2; omega
theorem m_cmd (hw : wT A R P) (h : zM A R L F P (σ.2 1)) {t : Nat} (ht : t < 2 ^ 31) : fX9_commanded σ (nI t) = some (nI (siz A P t)) := by
  have hA := hw.2.1
  unfold fX9_commanded
  rw [show (0 : Int32) = nI 0 from rfl, show (1 : Int32) = nI 1 from rfl, m_cmd4 hw h ht A 0 1 2000 (by omega) (by omega)]
  rfl
theorem c_ccmd4 (hw : wT A R P) (h : zO A R L F P σ) {t : Nat} (ht : t < 2 ^ 31) : ∀ (k i v n : Nat), i + k = A → k < n → fX3_countCommand_4 σ n (nI t) (nI v) (nI i) = some (nI (v + sr (fun o => i1 (t ∈ ch P o)) i k)) := by
  have hA := hw.2.1
  intro k
  induction k with
  | zero =>
    intro i v n hi hn
    obtain ⟨m, rfl⟩ : ∃ m, n = m + 1 := ⟨n - 1, by omega⟩
    rw [fX3_countCommand_4_s, c_A h, n_le (by omega) (by omega), if_pos (by omega)]
    rfl
  | succ k ih =>
    intro i v n hi hn
    obtain ⟨m, rfl⟩ : ∃ m, n = m + 1 := ⟨n - 1, by omega⟩
    rw [fX3_countCommand_4_s, c_A h, n_le (by omega) (by omega), if_neg (by omega), gx_chk_t (nI_in (by omega) (by decide)), c_srv hw h (by omega), c_over hw h ht (by omega), gx_b_some]
    simp only [sr]
    by_cases e : t ∈ ch P i
    · have e2 : hv P i = true := by
        cases e3 : P i with
        | none => rw [ch_none e3] at e; cases e
        | some p => exact hv_some e3
      rw [e2, b1_t, if_neg (by decide), ab_t e, if_neg (by decide), nI_1, nI_1, ih (i + 1) _ m (by omega) (by omega), i1_t e]; congr 2; omega
    · rw [ab_f e, if_pos rfl, ite_self, i1_f e, nI_1, ih (i + 1) _ m (by omega) (by omega)]; congr 2; omega
theorem c_ccmd (hw : wT A R P) (h : zO A R L F P σ) {t : Nat} (ht : t < 2 ^ 31) : fX3_countCommand σ (nI t) = some (nI (siz A P t)) := by
  have hA := hw.2.1
  unfold fX3_countCommand
  rw [show (0 : Int32) = nI 0 from rfl, show (1 : Int32) = nI 1 from rfl, c_ccmd4 hw h ht A 0 1 2000 (by omega) (by omega)]
  rfl
theorem c_size5 (hw : wT A R P) (h : zO A R L F P σ) {t lev : Nat} (ht : t < 2 ^ 31) (hlev : lev < 12) (rec : Int32 → Int32 → Option Int32) (hrec : ∀ c, c < A → P c = some t → rec (nI c) (nI (lev + 1)) = some (nI (siz A P c))) : ∀ (k i v n : Nat), i + k = A → k < n → fX3_sizeGoingDown_5 rec σ n (nI t) (nI lev) (nI v) (nI i) = some (nI (v + sr (fun c => if P c = some t then siz A P c else 0) i k)) := by
  have hA := hw.2.1
  intro k
  induction k with
  | zero =>
    intro i v n hi hn
    obtain ⟨m, rfl⟩ : ∃ m, n = m + 1 := ⟨n - 1, by omega⟩
    rw [fX3_sizeGoingDown_5_s, c_A h, n_le (by omega) (by omega), if_pos (by omega)]
    rfl
  | succ k ih =>
    intro i v n hi hn
    obtain ⟨m, rfl⟩ : ∃ m, n = m + 1 := ⟨n - 1, by omega⟩
    rw [fX3_sizeGoingDown_5_s, c_A h, n_le (by omega) (by omega), if_neg (by omega), if_neg (show ¬ (12 : Int32) ≤ nI lev from nI_ge (b := 12) (by omega) (by decide)), gx_chk_t (nI_in (by omega) (by decide)), c_sup hA h (by omega)]
    simp only [sr]
    cases e : P i with
    | none =>
      rw [show pI none = -1 from rfl, if_neg (fun q => n_m1 ht q.symm), nI_1, ih (i + 1) v m (by omega) (by omega), if_neg (fun h9 => by cases h9)]; congr 2; omega
    | some p =>
      have hp := (hw.2.2.2.2.1 i p e).1
      rw [show pI (some p) = nI p from rfl]
      by_cases e2 : p = t
      · rw [if_pos (by rw [e2]), nI_1, hrec i (by omega) (by rw [e, e2]), gx_b_some, nI_add, nI_1, ih (i + 1) _ m (by omega) (by omega), if_pos (by rw [e2])]; congr 2; omega
      · rw [if_neg (fun q => e2 ((nI_eq (by omega) ht).mp q)), nI_1, ih (i + 1) v m (by omega) (by omega), if_neg (fun h9 => e2 (Option.some.inj h9))]; congr 2; omega
theorem c_sizeN (hw : wT A R P) (h : zO A R L F P σ) : ∀ (n o lev : Nat), o < A → R o < n → lev + R o ≤ 11 → fX3_sizeGoingDown σ n (nI o) (nI lev) = some (nI (siz A P o)) := by
  have hA := hw.2.1
  intro n
  induction n with
  | zero => intro o lev ho hr; omega
  | succ n ih =>
    intro o lev ho hr hlev
    have hr1 := (hw.2.2.2.2.2 o ho).1
    rw [fX3_sizeGoingDown, show (0 : Int32) = nI 0 from rfl, show (1 : Int32) = nI 1 from rfl, c_size5 hw h (t := o) (lev := lev) (by omega) (by omega) (fX3_sizeGoingDown σ n) (fun c hc hpc => ih c (lev + 1) hc (by have := (hw.2.2.2.2.1 c o hpc).2.2; omega) (by have := (hw.2.2.2.2.1 c o hpc).2.2; omega)) A 0 1 2000 (by omega) (by omega), ← siz_rec hw]
theorem c_size (hw : wT A R P) (h : zO A R L F P σ) {o : Nat} (ho : o < A) : fX3_sizeGoingDown σ 16 (nI o) (0 : Int32) = some (nI (siz A P o)) := by
  have hr := (hw.2.2.2.2.2 o ho).2
  exact c_sizeN hw h 16 o 0 ho (by omega) (by omega)
/-! the search from above -/
def dst (t : Nat) : List Nat → Nat
  | [] => 0
  | p :: l => if p = t then 1 else 1 + dst t l
theorem dst_up (hw : wT A R P) {c t : Nat} (hc : P c = some t) : ∀ (l : List Nat) (o : Nat), cX P (P o) l → c ∈ l → dst t l = dst c l + 1 := by
  intro l
  induction l with
  | nil => intro o _ h; cases h
  | cons p l ih =>
    intro o hx h
    by_cases e : p = c
    · subst e
      have hn : ¬ p = t := fun q => by have := (hw.2.2.2.2.1 p t hc).2.2; rw [q] at this; omega
      cases l with
      | nil =>
        have e9 : P p = none := hx.2
        rw [hc] at e9
        cases e9
      | cons r l =>
        have e9 : some r = some t := hx.2.1.symm.trans hc
        cases e9
        simp [dst, hn]
    · have h2 : c ∈ l := (List.mem_cons.mp h).resolve_left (fun q => e q.symm)
      have hn : ¬ p = t := by
        intro q
        have h3 := (cX_mem hw l p hx.2 c h2).2.2
        have h4 := (hw.2.2.2.2.1 c t hc).2.2
        rw [q] at h3
        omega
      have := ih p hx.2 h2
      simp only [dst, if_neg e, if_neg hn]
      omega
theorem dst_0 (hw : wT A R P) : ∀ (l : List Nat) (o : Nat), cX P (P o) l → 0 ∈ l → dst 0 l = l.length := by
  intro l
  induction l with
  | nil => intro o _ h; cases h
  | cons p l ih =>
    intro o hx h
    by_cases e : p = 0
    · subst e
      have e0 : P 0 = none := hw.2.2.1
      cases l with
      | nil => simp [dst]
      | cons r l =>
        have e9 : P 0 = some r := hx.2.1
        rw [e0] at e9
        cases e9
    · have h2 : 0 ∈ l := (List.mem_cons.mp h).resolve_left (fun q => e q.symm)
      have := ih p hx.2 h2
      simp only [dst, if_neg e, List.length_cons]
      omega
/-- what the search from o answers for x -/
def sea (P : Nat → Option Nat) (x lev o : Nat) : Int32 := if o = x then nI lev else if o ∈ ch P x then nI (lev + dst o (ch P x)) else -1
theorem ch_child {o : Nat} : ∀ (l : List Nat) (x : Nat), cX P (P x) l → o ∈ l → ∃ c, P c = some o ∧ (c = x ∨ c ∈ l) := by
  intro l
  induction l with
  | nil => intro x _ h; cases h
  | cons p l ih =>
    intro x hx h
    by_cases e : p = o
    · subst e
      exact ⟨x, hx.1, Or.inl rfl⟩
    · have h2 : o ∈ l := (List.mem_cons.mp h).resolve_left (fun q => e q.symm)
      obtain ⟨c, h3, h4⟩ := ih p hx.2 h2
      refine ⟨c, h3, Or.inr ?_⟩
      rcases h4 with h4 | h4
      · rw [h4]; exact List.mem_cons_self
      · exact List.mem_cons_of_mem _ h4
theorem c_sea10 (hw : wT A R P) (h : zO A R L F P σ) {t lev x : Nat} (htA : t < A) (hx : x < A) (hlev : lev < 11) (htx : t ≠ x) (rec : Int32 → Int32 → Int32 → Option Int32) (hrec : ∀ c, c < A → P c = some t → rec (nI c) (nI x) (nI (lev + 1)) = some (sea P x (lev + 1) c)) : ∀ (k i n : Nat), i + k = A → k < n → (∀ c, c < i → P c = some t → ¬ (c = x ∨ c ∈ ch P x)) → fX3_searchDepth_10 rec σ n (nI t) (nI x) (nI lev) (nI i) = some (sea P x lev t) := by
  have hA := hw.2.1
  have hcx := ch_cX hw x
  intro k
  induction k with
  | zero =>
    intro i n hi hn hno
    obtain ⟨m, rfl⟩ : ∃ m, n = m + 1 := ⟨n - 1, by omega⟩
    rw [fX3_searchDepth_10_s, c_A h, n_le (by omega) (by omega), if_pos (by omega)]
    have h9 : t ∉ ch P x := by
      intro q
      obtain ⟨c, h3, h4⟩ := ch_child (ch P x) x hcx.1 q
      exact hno c (by have := hv_lt hw (hv_some h3); omega) h3 h4
    unfold sea
    rw [if_neg htx, if_neg h9]
  | succ k ih =>
    intro i n hi hn hno
    obtain ⟨m, rfl⟩ : ∃ m, n = m + 1 := ⟨n - 1, by omega⟩
    rw [fX3_searchDepth_10_s, c_A h, n_le (by omega) (by omega), if_neg (by omega), if_neg (show ¬ (12 : Int32) ≤ nI lev from nI_ge (b := 12) (by omega) (by decide)), gx_chk_t (nI_in (by omega) (by decide)), c_sup hA h (by omega)]
    by_cases e : P i = some t
    · rw [if_pos (by rw [e]; rfl), nI_1, hrec i (by omega) e, gx_b_some]
      by_cases e2 : i = x
      · have e3 : ch P x = t :: ch P t := by rw [← e2]; exact ch_some hw e
        have e4 : sea P x (lev + 1) i = nI (lev + 1) := by unfold sea; rw [if_pos e2]
        have e5 : sea P x lev t = nI (lev + 1) := by unfold sea; rw [if_neg htx, e3, if_pos List.mem_cons_self]; simp [dst]
        rw [e4, e5, if_neg (n_m1 (by omega))]
      · by_cases e3 : i ∈ ch P x
        · have e4 : t ∈ ch P x := by
            have h7 : ∀ (l : List Nat) (o : Nat), cX P (P o) l → i ∈ l → t ∈ l := by
              intro l
              induction l with
              | nil => intro o _ h8; cases h8
              | cons p l ihl =>
                intro o hx8 h8
                by_cases e9 : p = i
                · subst e9
                  cases l with
                  | nil =>
                    have e9 : P p = none := hx8.2
                    rw [e] at e9
                    cases e9
                  | cons r l =>
                    have e9 : some r = some t := hx8.2.1.symm.trans e
                    cases e9
                    exact List.mem_cons_of_mem _ List.mem_cons_self
                · exact List.mem_cons_of_mem _ (ihl p hx8.2 ((List.mem_cons.mp h8).resolve_left (fun q => e9 q.symm)))
            exact h7 _ x hcx.1 e3
          have e5 := dst_up hw e (ch P x) x hcx.1 e3
          have e6 : sea P x (lev + 1) i = nI (lev + 1 + dst i (ch P x)) := by unfold sea; rw [if_neg e2, if_pos e3]
          have e7 : sea P x lev t = nI (lev + 1 + dst i (ch P x)) := by unfold sea; rw [if_neg htx, if_pos e4, e5]; congr 1; omega
          have hle : ∀ (t : Nat) (l : List Nat), dst t l ≤ l.length := by
            intro t l
            induction l with
            | nil => exact Nat.le_refl _
            | cons p l ihl => simp only [dst, List.length_cons]; split <;> omega
          have := hle i (ch P x)
          rw [e6, e7, if_neg (n_m1 (by omega))]
        · have e6 : sea P x (lev + 1) i = -1 := by unfold sea; rw [if_neg e2, if_neg e3]
          rw [e6, if_pos rfl, nI_1]
          refine ih (i + 1) m (by omega) (by omega) (fun c hc hpc => ?_)
          by_cases e9 : c = i
          · rw [e9]; exact fun q => q.elim e2 e3
          · exact hno c (by omega) hpc
    · have e8 : ¬ pI (P i) = nI t := by
        cases e9 : P i with
        | none => exact fun q => n_m1 (by omega) q.symm
        | some p =>
          have hp := (hw.2.2.2.2.1 i p e9).1
          intro q
          have := (nI_eq (by omega) (by omega)).mp (show nI p = nI t from q)
          exact e (by rw [e9, this])
      rw [if_neg e8, nI_1]
      refine ih (i + 1) m (by omega) (by omega) (fun c hc hpc => ?_)
      by_cases e9 : c = i
      · rw [e9] at hpc; exact absurd hpc e
      · exact hno c (by omega) hpc
theorem c_seaN (hw : wT A R P) (h : zO A R L F P σ) {x : Nat} (hx : x < A) : ∀ (n o lev : Nat), o < A → R o < n → lev + R o ≤ 11 → fX3_searchDepth σ n (nI o) (nI x) (nI lev) = some (sea P x lev o) := by
  have hA := hw.2.1
  intro n
  induction n with
  | zero => intro o lev ho hr; omega
  | succ n ih =>
    intro o lev ho hr hlev
    have hr1 := (hw.2.2.2.2.2 o ho).1
    rw [fX3_searchDepth]
    by_cases e : o = x
    · subst e
      rw [if_pos rfl]
      unfold sea
      rw [if_pos rfl]
    · rw [if_neg (fun q => e ((nI_eq (by omega) (by omega)).mp q)), show (0 : Int32) = nI 0 from rfl]
      exact c_sea10 hw h ho hx (by omega) e (fX3_searchDepth σ n) (fun c hc hpc => ih c (lev + 1) hc (by have := (hw.2.2.2.2.1 c o hpc).2.2; omega) (by have := (hw.2.2.2.2.1 c o hpc).2.2; omega)) A 0 2000 (by omega) (by omega) (fun c hc => by omega)
theorem c_sea (hw : wT A R P) (h : zO A R L F P σ) {x : Nat} (hx : hv P x = true) : fX3_searchDepth σ 16 (0 : Int32) (nI x) (0 : Int32) = some (nI (ch P x).length) := by
  have hxA := hv_lt hw hx
  have h0 := hw.1
  have hr := (hw.2.2.2.2.2 0 (by omega)).2
  rw [show fX3_searchDepth σ 16 (0 : Int32) (nI x) (0 : Int32) = _ from c_seaN hw h hxA 16 0 0 (by omega) (by omega) (by omega)]
  unfold sea
  by_cases e : 0 = x
  · subst e
    rw [if_pos rfl, ch_none hw.2.2.1]
    rfl
  · have h2 := (ch_top hw hx).resolve_left (fun q => e q.symm)
    rw [if_neg e, if_pos h2, dst_0 hw _ x (ch_cX hw x).1 h2, Nat.zero_add]
end Size
