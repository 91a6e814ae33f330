/-! walks up the chain: both sides -/
/-- the one ahead of h on the chain from o, none if h is not on it -/
def bf (h : Nat) : Nat → List Nat → Option Nat
  | _, [] => none
  | o, p :: l => if p = h then some o else bf h p l
theorem bf_none {h : Nat} : ∀ (l : List Nat) (o : Nat), h ∉ l → bf h o l = none := by
  intro l
  induction l with
  | nil => intro o _; rfl
  | cons p l ih =>
    intro o hh
    have h1 : ¬ p = h := fun e => hh (by rw [e]; exact List.mem_cons_self)
    simp only [bf, if_neg h1]
    exact ih p (fun e => hh (List.mem_cons_of_mem _ e))
theorem bf_some {h : Nat} : ∀ (l : List Nat) (o : Nat), h ∈ l → ∃ q, bf h o l = some q ∧ (q = o ∨ q ∈ l) := by
  intro l
  induction l with
  | nil => intro o hh; cases hh
  | cons p l ih =>
    intro o hh
    by_cases e : p = h
    · exact ⟨o, by simp only [bf, if_pos e], Or.inl rfl⟩
    · have hh2 : h ∈ l := by
        rcases List.mem_cons.mp hh with q | q
        · exact absurd q.symm e
        · exact q
      obtain ⟨q, h1, h2⟩ := ih p hh2
      refine ⟨q, by simp only [bf, if_neg e]; exact h1, Or.inr ?_⟩
      rcases h2 with h2 | h2
      · rw [h2]; exact List.mem_cons_self
      · exact List.mem_cons_of_mem _ h2
def aB (h : Nat) (l : List Nat) : Int32 := b1 (decide (h ∈ l))
section Walk
variable {A : Nat} {R L F : Nat → Nat} {P : Nat → Option Nat} {σ : OS}
theorem pI_m1 {x : Option Nat} {p : Nat} (e : x = some p) (h : p < 2 ^ 31) : ¬ pI x = -1 := by rw [e]; exact n_m1 h
theorem c_sup (hA : A ≤ 12) (h : zO A R L F P σ) {o : Nat} (ho : o < A) : os_a σ 3 (nI o).toNatClampNeg = pI (P o) := by
  rw [nI_clamp (by omega)]
  exact (h.2.2 o ho).2.2.2
theorem c_loy (hA : A ≤ 12) (h : zO A R L F P σ) {o : Nat} (ho : o < A) : os_a σ 1 (nI o).toNatClampNeg = nI (L o) := by
  rw [nI_clamp (by omega)]
  exact (h.2.2 o ho).2.1
theorem c_rnk (hA : A ≤ 12) (h : zO A R L F P σ) {o : Nat} (ho : o < A) : os_a σ 0 (nI o).toNatClampNeg = nI (R o) := by
  rw [nI_clamp (by omega)]
  exact (h.2.2 o ho).1
theorem c_ref (hA : A ≤ 12) (h : zO A R L F P σ) {o : Nat} (ho : o < A) : os_a σ 2 (nI o).toNatClampNeg = nI (F o) := by
  rw [nI_clamp (by omega)]
  exact (h.2.2 o ho).2.2.1
theorem c_srv (hw : wT A R P) (h : zO A R L F P σ) {o : Nat} (ho : o < 12) : os_a σ 4 (nI o).toNatClampNeg = b1 (hv P o) := by
  rw [nI_clamp (by omega)]
  exact h.2.1 o ho
theorem c_climb9 (hA : A ≤ 12) (h : zO A R L F P σ) : ∀ (l : List Nat) (x : Option Nat) (d n : Nat), cX P x l → (∀ q ∈ l, q < A) → d + l.length ≤ 12 → l.length < n → fX3_climbDepth_9 σ n (nI d) (pI x) = some (nI (d + l.length)) := by
  intro l
  induction l with
  | nil =>
    intro x d n hc hl hd hn
    obtain ⟨m, rfl⟩ : ∃ m, n = m + 1 := ⟨n - 1, by omega⟩
    have e : x = none := hc
    rw [fX3_climbDepth_9_s, e, show pI none = -1 from rfl, if_pos rfl]
    rfl
  | cons p l ih =>
    intro x d n hc hl hd hn
    simp only [List.length_cons] at hd hn
    obtain ⟨m, rfl⟩ : ∃ m, n = m + 1 := ⟨n - 1, by omega⟩
    have hp : p < A := hl p List.mem_cons_self
    rw [fX3_climbDepth_9_s, if_neg (pI_m1 hc.1 (by omega)), hc.1, if_neg (show ¬ (12 : Int32) ≤ nI d from nI_ge (b := 12) (by omega) (by decide))]
    show gx_chk (gx_in (nI p) 12) _ = _
    rw [gx_chk_t (nI_in (by omega) (by decide)), show pI (some p) = nI p from rfl, c_sup hA h hp, nI_1, ih (P p) (d + 1) m hc.2 (fun q hq => hl q (List.mem_cons_of_mem _ hq)) (by omega) (by omega)]
    simp only [List.length_cons]
    congr 2
    omega
theorem c_climb (hw : wT A R P) (h : zO A R L F P σ) {o : Nat} (ho : o < A) : fX3_climbDepth σ (nI o) = some (nI (ch P o).length) := by
  have hA := hw.2.1
  have hc := ch_cX hw o
  unfold fX3_climbDepth
  rw [gx_chk_t (nI_in (by omega) (by decide)), c_sup hA h ho, show (0 : Int32) = nI 0 from rfl, c_climb9 hA h (ch P o) (P o) 0 2000 hc.1 (fun q hq => (ch_mem hw hq).1) (by omega) (by omega), Nat.zero_add]
theorem m_deep9 (hA : A ≤ 12) (h : zM A R L F P (σ.2 1)) : ∀ (l : List Nat) (x : Option Nat) (d n : Nat), cX P x l → (∀ q ∈ l, q < A) → l.length < n → fX9_deep_9 σ n (nI d) (pI x) = some (nI (d + l.length)) := by
  intro l
  induction l with
  | nil =>
    intro x d n hc hl hn
    obtain ⟨m, rfl⟩ : ∃ m, n = m + 1 := ⟨n - 1, by omega⟩
    have e : x = none := hc
    rw [fX9_deep_9_s, e, show pI none = -1 from rfl, if_pos rfl]
    rfl
  | cons p l ih =>
    intro x d n hc hl hn
    simp only [List.length_cons] at hn
    obtain ⟨m, rfl⟩ : ∃ m, n = m + 1 := ⟨n - 1, by omega⟩
    have hp : p < A := hl p List.mem_cons_self
    rw [fX9_deep_9_s, if_neg (pI_m1 hc.1 (by omega)), hc.1, show pI (some p) = nI p from rfl, m_of4 hA h hp, gx_b_some, nI_1, ih (P p) (d + 1) m hc.2 (fun q hq => hl q (List.mem_cons_of_mem _ hq)) (by omega)]
    simp only [List.length_cons]
    congr 2
    omega
theorem m_deep (hw : wT A R P) (h : zM A R L F P (σ.2 1)) {o : Nat} (ho : o < A) : fX9_deep σ (nI o) = some (nI (ch P o).length) := by
  have hA := hw.2.1
  have hc := ch_cX hw o
  unfold fX9_deep
  rw [m_of4 hA h ho, gx_b_some, show (0 : Int32) = nI 0 from rfl, m_deep9 hA h (ch P o) (P o) 0 2000 hc.1 (fun q hq => (ch_mem hw hq).1) (by omega), Nat.zero_add]
theorem m_above7 (hA : A ≤ 12) (h : zM A R L F P (σ.2 1)) {t : Nat} (ht : t < 2 ^ 31) : ∀ (l : List Nat) (x : Option Nat) (n : Nat), cX P x l → (∀ q ∈ l, q < A) → l.length < n → fX9_above_7 σ n (nI t) (pI x) = some (aB t l) := by
  intro l
  induction l with
  | nil =>
    intro x n hc hl hn
    obtain ⟨m, rfl⟩ : ∃ m, n = m + 1 := ⟨n - 1, by omega⟩
    have e : x = none := hc
    rw [fX9_above_7_s, e, show pI none = -1 from rfl, if_pos rfl]
    unfold fX9_above_27
    rw [if_neg (fun q => n_m1 ht q.symm)]
    simp [aB, b1]
  | cons p l ih =>
    intro x n hc hl hn
    simp only [List.length_cons] at hn
    obtain ⟨m, rfl⟩ : ∃ m, n = m + 1 := ⟨n - 1, by omega⟩
    have hp : p < A := hl p List.mem_cons_self
    rw [fX9_above_7_s, if_neg (pI_m1 hc.1 (by omega)), hc.1, show pI (some p) = nI p from rfl]
    by_cases e : p = t
    · subst e
      rw [if_pos rfl]
      unfold fX9_above_27
      rw [if_pos rfl]
      simp [aB, b1]
    · rw [if_neg (fun q => e ((nI_eq (by omega) ht).mp q)), m_of4 hA h hp, gx_b_some, ih (P p) m hc.2 (fun q hq => hl q (List.mem_cons_of_mem _ hq)) (by omega)]
      have e2 : ¬ t = p := fun q => e q.symm
      simp [aB, b1, e2]
theorem m_above (hw : wT A R P) (h : zM A R L F P (σ.2 1)) {t o : Nat} (ht : t < 2 ^ 31) (ho : o < A) : fX9_above σ (nI t) (nI o) = some (aB t (ch P o)) := by
  have hA := hw.2.1
  have hc := ch_cX hw o
  unfold fX9_above
  rw [m_of4 hA h ho, gx_b_some, m_above7 hA h ht (ch P o) (P o) 2000 hc.1 (fun q hq => (ch_mem hw hq).1) (by omega)]
theorem m_next2 (hA : A ≤ 12) (h : zM A R L F P (σ.2 1)) {t : Nat} (ht : t < 2 ^ 31) : ∀ (l : List Nat) (o n : Nat), cX P (P o) l → o < A → (∀ q ∈ l, q < A) → t ∈ l → l.length ≤ n → fX9_next_2 σ n (nI t) (nI o) = some (pI (bf t o l)) := by
  intro l
  induction l with
  | nil => intro o n hc ho hl ht; cases ht
  | cons p l ih =>
    intro o n hc ho hl hin hn
    simp only [List.length_cons] at hn
    obtain ⟨m, rfl⟩ : ∃ m, n = m + 1 := ⟨n - 1, by omega⟩
    have hp : p < A := hl p List.mem_cons_self
    rw [fX9_next_2_s, m_of4 hA h ho, gx_b_some, hc.1, show pI (some p) = nI p from rfl]
    by_cases e : p = t
    · subst e
      rw [if_pos rfl]
      simp [bf, pI]
    · have e2 : ¬ t = p := fun q => e q.symm
      have hin2 : t ∈ l := by
        rcases List.mem_cons.mp hin with q | q
        · exact absurd q e2
        · exact q
      rw [if_neg (fun q => e ((nI_eq (by omega) ht).mp q)), gx_b_some, ih p m hc.2 hp (fun q hq => hl q (List.mem_cons_of_mem _ hq)) hin2 (by omega)]
      simp only [bf, if_neg e]
theorem m_next (hw : wT A R P) (h : zM A R L F P (σ.2 1)) {t o : Nat} (hin : t ∈ ch P o) (ho : o < A) : fX9_next σ (nI t) (nI o) = some (pI (bf t o (ch P o))) := by
  have hA := hw.2.1
  have hc := ch_cX hw o
  have ht := (ch_mem hw hin).1
  unfold fX9_next
  rw [m_next2 hA h (by omega) (ch P o) o 2000 hc.1 ho (fun q hq => (ch_mem hw hq).1) hin (by omega)]
theorem c_now5 (hA : A ≤ 12) (h : zO A R L F P σ) {t : Nat} (ht : t < 2 ^ 31) : ∀ (l : List Nat) (o d n : Nat), cX P (P o) l → o < A → (∀ q ∈ l, q < A) → d + l.length < 12 → l.length + 1 < n → fX3_nextOnWay_5 σ n (nI t) (nI o) (nI d) = some (pI (bf t o l)) := by
  intro l
  induction l with
  | nil =>
    intro o d n hc ho hl hd hn
    obtain ⟨m, rfl⟩ : ∃ m, n = m + 2 := ⟨n - 2, by simp at hn; omega⟩
    have e : P o = none := hc
    rw [fX3_nextOnWay_5_s, if_neg (show ¬ (12 : Int32) ≤ nI d from nI_ge (b := 12) (by simp at hd; omega) (by decide)), if_neg (n_m1 (by omega)), gx_chk_t (nI_in (by omega) (by decide)), c_sup hA h ho, e, show pI none = -1 from rfl, if_neg (fun q => n_m1 ht q.symm), gx_chk_t (nI_in (by omega) (by decide)), fX3_nextOnWay_5_s]
    by_cases e2 : (12 : Int32) ≤ nI d + 1
    · rw [if_pos e2]; rfl
    · rw [if_neg e2, if_pos rfl]; rfl
  | cons p l ih =>
    intro o d n hc ho hl hd hn
    simp only [List.length_cons] at hd hn
    obtain ⟨m, rfl⟩ : ∃ m, n = m + 1 := ⟨n - 1, by omega⟩
    have hp : p < A := hl p List.mem_cons_self
    rw [fX3_nextOnWay_5_s, if_neg (show ¬ (12 : Int32) ≤ nI d from nI_ge (b := 12) (by omega) (by decide)), if_neg (n_m1 (by omega)), gx_chk_t (nI_in (by omega) (by decide)), c_sup hA h ho, hc.1, show pI (some p) = nI p from rfl]
    by_cases e : p = t
    · subst e
      rw [if_pos rfl]
      simp [bf, pI]
    · rw [if_neg (fun q => e ((nI_eq (by omega) ht).mp q)), gx_chk_t (nI_in (by omega) (by decide)), nI_1, ih p (d + 1) m hc.2 hp (fun q hq => hl q (List.mem_cons_of_mem _ hq)) (by omega) (by omega)]
      simp only [bf, if_neg e]
theorem c_now (hw : wT A R P) (h : zO A R L F P σ) {t o : Nat} (ht : t < 2 ^ 31) (ho : o < A) : fX3_nextOnWay σ (nI t) (nI o) = some (pI (bf t o (ch P o))) := by
  have hA := hw.2.1
  have hc := ch_cX hw o
  unfold fX3_nextOnWay
  rw [show (0 : Int32) = nI 0 from rfl, c_now5 hA h ht (ch P o) o 0 2000 hc.1 ho (fun q hq => (ch_mem hw hq).1) (by omega) (by omega)]
theorem c_over (hw : wT A R P) (h : zO A R L F P σ) {t o : Nat} (ht : t < 2 ^ 31) (ho : o < A) : fX3_isOver σ (nI t) (nI o) = some (aB t (ch P o)) := by
  have hA := hw.2.1
  unfold fX3_isOver
  rw [c_now hw h ht ho, gx_b_some]
  by_cases e : t ∈ ch P o
  · obtain ⟨q, h1, h2⟩ := bf_some (ch P o) o e
    have hq : q < A := by
      rcases h2 with h2 | h2
      · omega
      · exact (ch_mem hw h2).1
    rw [if_neg (pI_m1 h1 (by omega))]
    simp [aB, b1, e]
  · rw [bf_none _ o e, show pI none = -1 from rfl, if_pos rfl]
    simp [aB, b1, e]
/-! the lowest above both -/
/-- the first of o and its chain that has o2 in its command -/
def low (P : Nat → Option Nat) (t : Nat) : Nat → List Nat → Nat
  | o, [] => o
  | o, p :: l => if o = t then o else if o ∈ ch P t then o else low P t p l
theorem low_stop {t o : Nat} (l : List Nat) (h : o = t ∨ o ∈ ch P t) : low P t o l = o := by
  cases l with
  | nil => rfl
  | cons p l =>
    unfold low
    by_cases e : o = t
    · rw [if_pos e]
    · rw [if_neg e, if_pos (h.resolve_left e)]
theorem m_common (hw : wT A R P) (h : zM A R L F P (σ.2 1)) {t : Nat} (ht : hv P t = true) : ∀ (l : List Nat) (o n : Nat), cX P (P o) l → hv P o = true → (∀ q ∈ l, q < A) → l.length < n → fX9_commonSuperior_36 n σ (nI t) (nI o) = some (nI (low P t o l), σ) := by
  have hA := hw.2.1
  have htA := hv_lt hw ht
  intro l
  induction l with
  | nil =>
    intro o n hc ho hl hn
    obtain ⟨m, rfl⟩ : ∃ m, n = m + 1 := ⟨n - 1, by omega⟩
    have hoA := hv_lt hw ho
    have e0 : o = 0 := by
      rcases hv_cases ho with e | ⟨p, e⟩
      · exact e
      · have e2 : P o = none := hc
        rw [e] at e2
        cases e2
    subst e0
    rw [fX9_commonSuperior_36_s]
    by_cases e : 0 = t
    · subst e
      rw [if_pos rfl]
      rfl
    · have hin : 0 ∈ ch P t := (ch_top hw ht).resolve_left (fun q => e q.symm)
      rw [if_neg (fun q => e ((nI_eq (by omega) (by omega)).mp q)), m_above hw h (by omega) htA, gx_b_some, if_neg (by simp [aB, b1, hin])]
      rfl
  | cons p l ih =>
    intro o n hc ho hl hn
    simp only [List.length_cons] at hn
    obtain ⟨m, rfl⟩ : ∃ m, n = m + 1 := ⟨n - 1, by omega⟩
    have hoA := hv_lt hw ho
    rw [fX9_commonSuperior_36_s]
    by_cases e : o = t
    · subst e
      rw [if_pos rfl, low_stop _ (Or.inl rfl)]
    · rw [if_neg (fun q => e ((nI_eq (by omega) (by omega)).mp q)), m_above hw h (by omega) htA, gx_b_some]
      by_cases e2 : o ∈ ch P t
      · rw [if_neg (by simp [aB, b1, e2]), low_stop _ (Or.inr e2)]
      · rw [if_pos (by simp [aB, b1, e2]), m_of4 hA h hoA, gx_b_some, hc.1, show pI (some p) = nI p from rfl, ih p m hc.2 (hw.2.2.2.2.1 o p hc.1).2.1 (fun q hq => hl q (List.mem_cons_of_mem _ hq)) (by omega)]
        simp only [low, if_neg e, if_neg e2]
theorem c_lowest5 (hw : wT A R P) (h : zO A R L F P σ) {t : Nat} (ht : hv P t = true) : ∀ (l : List Nat) (o d n : Nat), cX P (P o) l → hv P o = true → (∀ q ∈ l, q < A) → d + l.length < 12 → l.length < n → fX3_lowestOverBoth_5 σ n (nI t) (nI o) (nI d) = some (nI (low P t o l)) := by
  have hA := hw.2.1
  have htA := hv_lt hw ht
  intro l
  induction l with
  | nil =>
    intro o d n hc ho hl hd hn
    obtain ⟨m, rfl⟩ : ∃ m, n = m + 1 := ⟨n - 1, by omega⟩
    have hoA := hv_lt hw ho
    have e0 : P o = none := hc
    rw [fX3_lowestOverBoth_5_s, if_neg (show ¬ (12 : Int32) ≤ nI d from nI_ge (b := 12) (by simp at hd; omega) (by decide))]
    by_cases e : o = t
    · subst e
      rw [if_pos rfl]
      rfl
    · rw [if_neg (fun q => e ((nI_eq (by omega) (by omega)).mp q)), c_over hw h (by omega) htA, gx_b_some]
      by_cases e2 : o ∈ ch P t
      · rw [if_neg (by simp [aB, b1, e2])]
        rfl
      · rw [if_pos (by simp [aB, b1, e2]), gx_chk_t (nI_in (by omega) (by decide)), c_sup hA h hoA, e0, show pI none = -1 from rfl, if_pos rfl]
        rfl
  | cons p l ih =>
    intro o d n hc ho hl hd hn
    simp only [List.length_cons] at hd hn
    obtain ⟨m, rfl⟩ : ∃ m, n = m + 1 := ⟨n - 1, by omega⟩
    have hoA := hv_lt hw ho
    have hpA := hl p List.mem_cons_self
    rw [fX3_lowestOverBoth_5_s, if_neg (show ¬ (12 : Int32) ≤ nI d from nI_ge (b := 12) (by omega) (by decide))]
    by_cases e : o = t
    · subst e
      rw [if_pos rfl, low_stop _ (Or.inl rfl)]
    · rw [if_neg (fun q => e ((nI_eq (by omega) (by omega)).mp q)), c_over hw h (by omega) htA, gx_b_some]
      by_cases e2 : o ∈ ch P t
      · rw [if_neg (by simp [aB, b1, e2]), low_stop _ (Or.inr e2)]
      · rw [if_pos (by simp [aB, b1, e2]), gx_chk_t (nI_in (by omega) (by decide)), c_sup hA h hoA, if_neg (pI_m1 hc.1 (by omega)), gx_chk_t (nI_in (by omega) (by decide)), hc.1, show pI (some p) = nI p from rfl, nI_1, ih p (d + 1) m hc.2 (hw.2.2.2.2.1 o p hc.1).2.1 (fun q hq => hl q (List.mem_cons_of_mem _ hq)) (by omega) (by omega)]
        simp only [low, if_neg e, if_neg e2]
theorem c_lowest (hw : wT A R P) (h : zO A R L F P σ) {o t : Nat} (ho : hv P o = true) (ht : hv P t = true) : fX3_lowestOverBoth σ (nI o) (nI t) = some (nI (low P t o (ch P o))) := by
  have hc := ch_cX hw o
  unfold fX3_lowestOverBoth
  rw [show (0 : Int32) = nI 0 from rfl, c_lowest5 hw h ht (ch P o) o 0 2000 hc.1 ho (fun q hq => (ch_mem hw hq).1) (by omega) (by omega)]
/-! along the way down to t: the least loyalty, the first who would refuse -/
def lea (L : Nat → Nat) (t : Nat) : Nat → Nat → List Nat → Nat
  | v, o, l => if o = t then v else match l with
    | [] => if L o < v then L o else v
    | p :: l => lea L t (if L o < v then L o else v) p l
def fre (L : Nat → Nat) (t s : Nat) : Option Nat → Nat → List Nat → Option Nat
  | v, o, l => if o = t then v else match l with
    | [] => if L o < s then some o else v
    | p :: l => fre L t s (if L o < s then some o else v) p l
theorem n_lt {a b : Nat} (ha : a < 2 ^ 31) (hb : b < 2 ^ 31) {α : Type} {x y : α} : (if nI a < nI b then x else y) = if a < b then x else y := by
  by_cases h : a < b
  · rw [if_pos h, if_pos ((nI_ltI ha hb).mpr h)]
  · rw [if_neg h, if_neg (fun q => h ((nI_ltI ha hb).mp q))]
theorem n_le {a b : Nat} (ha : a < 2 ^ 31) (hb : b < 2 ^ 31) {α : Type} {x y : α} : (if nI a ≤ nI b then x else y) = if a ≤ b then x else y := by
  by_cases h : a ≤ b
  · rw [if_pos h, if_pos ((nI_leI ha hb).mpr h)]
  · rw [if_neg h, if_neg (fun q => h ((nI_leI ha hb).mp q))]
theorem n_eq {a b : Nat} (ha : a < 2 ^ 31) (hb : b < 2 ^ 31) {α : Type} {x y : α} : (if nI a = nI b then x else y) = if a = b then x else y := by
  by_cases h : a = b
  · rw [if_pos h, if_pos ((nI_eq ha hb).mpr h)]
  · rw [if_neg h, if_neg (fun q => h ((nI_eq ha hb).mp q))]
theorem n_ite {c : Prop} [Decidable c] {a b : Nat} : (if c then nI a else nI b) = nI (if c then a else b) := by
  by_cases h : c
  · rw [if_pos h, if_pos h]
  · rw [if_neg h, if_neg h]
theorem p_ite {c : Prop} [Decidable c] {a b : Option Nat} : (if c then pI a else pI b) = pI (if c then a else b) := by
  by_cases h : c
  · rw [if_pos h, if_pos h]
  · rw [if_neg h, if_neg h]
theorem c_least9 (hA : A ≤ 12) (hL : ∀ o, o < A → L o ≤ 100) (h : zO A R L F P σ) {t : Nat} (ht : t < A) : ∀ (l : List Nat) (o v d n : Nat), cX P (P o) l → o < A → (∀ q ∈ l, q < A) → (o = t ∨ t ∈ l) → v ≤ 100 → d + l.length < 12 → l.length < n → fX3_leastLoyalty_9 σ n (nI t) (nI v) (nI o) (nI d) = some (nI (lea L t v o l)) := by
  intro l
  induction l with
  | nil =>
    intro o v d n hc ho hl hin hv hd hn
    obtain ⟨m, rfl⟩ : ∃ m, n = m + 1 := ⟨n - 1, by omega⟩
    have e : o = t := hin.resolve_right (by simp)
    subst e
    rw [fX3_leastLoyalty_9_s, if_neg (show ¬ (12 : Int32) ≤ nI d from nI_ge (b := 12) (by simp at hd; omega) (by decide)), if_pos rfl]
    simp [lea]
  | cons p l ih =>
    intro o v d n hc ho hl hin hv hd hn
    simp only [List.length_cons] at hd hn
    obtain ⟨m, rfl⟩ : ∃ m, n = m + 1 := ⟨n - 1, by omega⟩
    have hpA := hl p List.mem_cons_self
    rw [fX3_leastLoyalty_9_s, if_neg (show ¬ (12 : Int32) ≤ nI d from nI_ge (b := 12) (by omega) (by decide))]
    by_cases e : o = t
    · subst e
      rw [if_pos rfl]
      simp [lea]
    · have hLo := hL o ho
      have hin2 : p = t ∨ t ∈ l := by
        rcases hin with q | q
        · exact absurd q e
        · rcases List.mem_cons.mp q with q | q
          · exact Or.inl q.symm
          · exact Or.inr q
      rw [if_neg (fun q => e ((nI_eq (by omega) (by omega)).mp q)), if_neg (n_m1 (by omega)), gx_chk_t (nI_in (by omega) (by decide)), gx_chk_t (nI_in (by omega) (by decide)), c_sup hA h ho, hc.1, show pI (some p) = nI p from rfl, c_loy hA h ho, n_lt (by omega) (by omega), n_ite, nI_1, ih p _ (d + 1) m hc.2 hpA (fun q hq => hl q (List.mem_cons_of_mem _ hq)) hin2 (by split <;> omega) (by omega) (by omega)]
      conv => rhs; unfold lea
      rw [if_neg e]
theorem c_least (hw : wT A R P) (hL : ∀ o, o < A → L o ≤ 100) (h : zO A R L F P σ) {t o : Nat} (hin : t ∈ ch P o) (ho : o < A) : fX3_leastLoyalty σ (nI t) (nI o) = some (nI (lea L t 100 o (ch P o))) := by
  have hA := hw.2.1
  have hc := ch_cX hw o
  unfold fX3_leastLoyalty
  rw [show (0 : Int32) = nI 0 from rfl, show (100 : Int32) = nI 100 from rfl, c_least9 hA hL h (ch_mem hw hin).1 (ch P o) o 100 0 2000 hc.1 ho (fun q hq => (ch_mem hw hq).1) (Or.inr hin) (by omega) (by omega) (by omega)]
theorem m_least (hA : A ≤ 12) (hL : ∀ o, o < A → L o ≤ 100) (h : zM A R L F P (σ.2 1)) {t : Nat} (ht : t < A) : ∀ (l : List Nat) (o v n : Nat), cX P (P o) l → o < A → (∀ q ∈ l, q < A) → (o = t ∨ t ∈ l) → v ≤ 100 → l.length < n → fX9_greatestSeverity_17 n σ (nI t) (nI v) (nI o) = some (nI (lea L t v o l), σ) := by
  intro l
  induction l with
  | nil =>
    intro o v n hc ho hl hin hv hn
    obtain ⟨m, rfl⟩ : ∃ m, n = m + 1 := ⟨n - 1, by omega⟩
    have e : o = t := hin.resolve_right (by simp)
    subst e
    rw [fX9_greatestSeverity_17_s, if_pos rfl]
    simp [lea]
  | cons p l ih =>
    intro o v n hc ho hl hin hv hn
    simp only [List.length_cons] at hn
    obtain ⟨m, rfl⟩ : ∃ m, n = m + 1 := ⟨n - 1, by omega⟩
    have hpA := hl p List.mem_cons_self
    rw [fX9_greatestSeverity_17_s]
    by_cases e : o = t
    · subst e
      rw [if_pos rfl]
      simp [lea]
    · have hLo := hL o ho
      have hin2 : p = t ∨ t ∈ l := by
        rcases hin with q | q
        · exact absurd q e
        · rcases List.mem_cons.mp q with q | q
          · exact Or.inl q.symm
          · exact Or.inr q
      rw [if_neg (fun q => e ((nI_eq (by omega) (by omega)).mp q)), m_of2 hA h ho, gx_b_some, n_le (by omega) (by omega), m_of4 hA h ho, gx_b_some, hc.1, show pI (some p) = nI p from rfl]
      conv => rhs; unfold lea
      rw [if_neg e]
      by_cases e3 : v ≤ L o
      · rw [if_pos e3, if_neg (by omega), ih p v m hc.2 hpA (fun q hq => hl q (List.mem_cons_of_mem _ hq)) hin2 hv (by omega)]
      · rw [if_neg e3, if_pos (by omega), gx_b_some, gx_b_some, ih p (L o) m hc.2 hpA (fun q hq => hl q (List.mem_cons_of_mem _ hq)) hin2 hLo (by omega)]
theorem c_first9 (hA : A ≤ 12) (hL : ∀ o, o < A → L o ≤ 100) (h : zO A R L F P σ) {t s : Nat} (ht : t < A) (hs : s ≤ 100) : ∀ (l : List Nat) (o d n : Nat) (v : Option Nat), cX P (P o) l → o < A → (∀ q ∈ l, q < A) → (o = t ∨ t ∈ l) → d + l.length < 12 → l.length < n → fX3_firstRefuser_9 σ n (nI t) (nI s) (pI v) (nI o) (nI d) = some (pI (fre L t s v o l)) := by
  intro l
  induction l with
  | nil =>
    intro o d n v hc ho hl hin hd hn
    obtain ⟨m, rfl⟩ : ∃ m, n = m + 1 := ⟨n - 1, by omega⟩
    have e : o = t := hin.resolve_right (by simp)
    subst e
    rw [fX3_firstRefuser_9_s, if_neg (show ¬ (12 : Int32) ≤ nI d from nI_ge (b := 12) (by simp at hd; omega) (by decide)), if_pos rfl]
    simp [fre]
  | cons p l ih =>
    intro o d n v hc ho hl hin hd hn
    simp only [List.length_cons] at hd hn
    obtain ⟨m, rfl⟩ : ∃ m, n = m + 1 := ⟨n - 1, by omega⟩
    have hpA := hl p List.mem_cons_self
    rw [fX3_firstRefuser_9_s, if_neg (show ¬ (12 : Int32) ≤ nI d from nI_ge (b := 12) (by omega) (by decide))]
    by_cases e : o = t
    · subst e
      rw [if_pos rfl]
      simp [fre]
    · have hLo := hL o ho
      have hin2 : p = t ∨ t ∈ l := by
        rcases hin with q | q
        · exact absurd q e
        · rcases List.mem_cons.mp q with q | q
          · exact Or.inl q.symm
          · exact Or.inr q
      rw [if_neg (fun q => e ((nI_eq (by omega) (by omega)).mp q)), if_neg (n_m1 (by omega)), gx_chk_t (nI_in (by omega) (by decide)), c_loy hA h ho, n_le (by omega) (by omega)]
      unfold fX3_firstRefuser_43
      rw [gx_chk_t (nI_in (by omega) (by decide)), c_sup hA h ho, hc.1, show pI (some p) = nI p from rfl, nI_1]
      conv => rhs; unfold fre
      rw [if_neg e]
      by_cases e3 : s ≤ L o
      · rw [if_pos e3, if_neg (by omega), ih p (d + 1) m v hc.2 hpA (fun q hq => hl q (List.mem_cons_of_mem _ hq)) hin2 (by omega) (by omega)]
      · rw [if_neg e3, if_pos (by omega), gx_chk_t (nI_in (by omega) (by decide))]
        exact ih p (d + 1) m (some o) hc.2 hpA (fun q hq => hl q (List.mem_cons_of_mem _ hq)) hin2 (by omega) (by omega)
theorem c_first (hw : wT A R P) (hL : ∀ o, o < A → L o ≤ 100) (h : zO A R L F P σ) {t o s : Nat} (hs : s ≤ 100) (hin : t ∈ ch P o) (ho : o < A) : fX3_firstRefuser σ (nI t) (nI o) (nI s) = some (pI (fre L t s none o (ch P o))) := by
  have hA := hw.2.1
  have hc := ch_cX hw o
  unfold fX3_firstRefuser
  rw [show (0 : Int32) = nI 0 from rfl]
  exact c_first9 hA hL h (ch_mem hw hin).1 hs (ch P o) o 0 2000 none hc.1 ho (fun q hq => (ch_mem hw hq).1) (Or.inr hin) (by omega) (by omega)
theorem fre_lt (L : Nat → Nat) {t s : Nat} {A : Nat} : ∀ (l : List Nat) (o : Nat) (v : Option Nat), o < A → (∀ q ∈ l, q < A) → (∀ q, v = some q → q < A) → ∀ q, fre L t s v o l = some q → q < A := by
  intro l
  induction l with
  | nil =>
    intro o v ho hl hv q hq
    unfold fre at hq
    by_cases e : o = t
    · rw [if_pos e] at hq; exact hv q hq
    · rw [if_neg e] at hq
      by_cases e2 : L o < s
      · simp only [if_pos e2] at hq; cases hq; exact ho
      · simp only [if_neg e2] at hq; exact hv q hq
  | cons p l ih =>
    intro o v ho hl hv q hq
    unfold fre at hq
    by_cases e : o = t
    · rw [if_pos e] at hq; exact hv q hq
    · rw [if_neg e] at hq
      refine ih p _ (hl p List.mem_cons_self) (fun q hq => hl q (List.mem_cons_of_mem _ hq)) (fun q h9 => ?_) q hq
      by_cases e2 : L o < s
      · rw [if_pos e2] at h9; cases h9; exact ho
      · rw [if_neg e2] at h9; exact hv q h9
theorem m_first (hA : A ≤ 12) (hL : ∀ o, o < A → L o ≤ 100) (h : zM A R L F P (σ.2 1)) {t s : Nat} (ht : t < A) (hs : s ≤ 100) : ∀ (l : List Nat) (o n : Nat) (v : Option Nat), cX P (P o) l → o < A → (∀ q ∈ l, q < A) → (o = t ∨ t ∈ l) → l.length < n → (∀ q, v = some q → q < A) → fX9_firstRefusal_67 n σ (nI t) (nI s) (pI v) (nI o) = (match fre L t s v o l with
    | none => some (0, os_sf σ 0 4)
    | some q => some (nI q, σ)) := by
  intro l
  induction l with
  | nil =>
    intro o n v hc ho hl hin hn hv
    obtain ⟨m, rfl⟩ : ∃ m, n = m + 1 := ⟨n - 1, by omega⟩
    have e : o = t := hin.resolve_right (by simp)
    subst e
    rw [fX9_firstRefusal_67_s, if_pos rfl]
    have e2 : fre L o s v o [] = v := by simp [fre]
    rw [e2]
    cases v with
    | none => rw [show pI none = -1 from rfl, if_pos rfl]; rfl
    | some q => rw [if_neg (pI_m1 rfl (by have := hv q rfl; omega))]; rfl
  | cons p l ih =>
    intro o n v hc ho hl hin hn hv
    simp only [List.length_cons] at hn
    obtain ⟨m, rfl⟩ : ∃ m, n = m + 1 := ⟨n - 1, by omega⟩
    have hpA := hl p List.mem_cons_self
    rw [fX9_firstRefusal_67_s]
    by_cases e : o = t
    · subst e
      have e2 : fre L o s v o (p :: l) = v := by simp [fre]
      rw [if_pos rfl, e2]
      cases v with
      | none => rw [show pI none = -1 from rfl, if_pos rfl]; rfl
      | some q => rw [if_neg (pI_m1 rfl (by have := hv q rfl; omega))]; rfl
    · have hLo := hL o ho
      have hin2 : p = t ∨ t ∈ l := by
        rcases hin with q | q
        · exact absurd q e
        · rcases List.mem_cons.mp q with q | q
          · exact Or.inl q.symm
          · exact Or.inr q
      have e2 : fre L t s v o (p :: l) = fre L t s (if L o < s then some o else v) p l := by
        conv => lhs; unfold fre
        rw [if_neg e]
      rw [if_neg (fun q => e ((nI_eq (by omega) (by omega)).mp q)), m_of2 hA h ho, gx_b_some, n_le (by omega) (by omega), m_of4 hA h ho, gx_b_some, gx_b_some, hc.1, show pI (some p) = nI p from rfl, e2]
      by_cases e3 : s ≤ L o
      · rw [if_pos e3, if_neg (by omega)]
        exact ih p m v hc.2 hpA (fun q hq => hl q (List.mem_cons_of_mem _ hq)) hin2 (by omega) hv
      · rw [if_neg e3, if_pos (by omega)]
        exact ih p m (some o) hc.2 hpA (fun q hq => hl q (List.mem_cons_of_mem _ hq)) hin2 (by omega) (fun q h9 => by cases h9; exact ho)
/-- somebody refuses just where the severity is above the least loyalty -/
theorem fre_none (L : Nat → Nat) {t s : Nat} : ∀ (l : List Nat) (o v : Nat), s ≤ v → (s ≤ lea L t v o l ↔ fre L t s none o l = none) := by
  intro l
  induction l with
  | nil =>
    intro o v hv
    unfold lea fre
    by_cases e : o = t
    · simp [if_pos e, hv]
    · simp only [if_neg e]
      by_cases e2 : L o < s
      · rw [if_pos (by omega), if_pos e2]; simp; omega
      · rw [if_neg e2]
        refine ⟨fun _ => rfl, fun _ => ?_⟩
        split <;> omega
  | cons p l ih =>
    intro o v hv
    unfold lea fre
    by_cases e : o = t
    · simp [if_pos e, hv]
    · simp only [if_neg e]
      by_cases e2 : L o < s
      · rw [if_pos (show L o < v by omega), if_pos e2]
        have h1 : ∀ (l : List Nat) (o v : Nat), v < s → lea L t v o l < s := by
          intro l
          induction l with
          | nil => intro o v hv; unfold lea; split <;> (try simp only) <;> (try split) <;> omega
          | cons p l ih =>
            intro o v hv
            unfold lea
            split
            · exact hv
            · exact ih p _ (by split <;> omega)
        have h2 : ∀ (l : List Nat) (o q : Nat), fre L t s (some q) o l ≠ none := by
          intro l
          induction l with
          | nil =>
            intro o q h9
            unfold fre at h9
            split at h9
            · cases h9
            · simp only at h9
              split at h9 <;> cases h9
          | cons p l ih =>
            intro o q h9
            unfold fre at h9
            split at h9
            · cases h9
            · simp only at h9
              split at h9
              · exact ih p o h9
              · exact ih p q h9
        have h3 := h1 l p (L o) e2
        exact ⟨fun q => by omega, fun q => absurd q (h2 l p o)⟩
      · rw [if_neg e2]
        exact ih p _ (by split <;> omega)
theorem lea_le (L : Nat → Nat) {t : Nat} : ∀ (l : List Nat) (o v : Nat), lea L t v o l ≤ v := by
  intro l
  induction l with
  | nil => intro o v; unfold lea; split <;> (try simp only) <;> (try split) <;> omega
  | cons p l ih =>
    intro o v
    unfold lea
    split
    · omega
    · have := ih p (if L o < v then L o else v)
      have h2 : (if L o < v then L o else v) ≤ v := by split <;> omega
      simp only
      omega
end Walk
