/-! THE PURE PART: numbers, chains of superiors, the officers' pictures of both sides -/
theorem n_mul (a b : Nat) : nI a * nI b = nI (a * b) := (Int32.ofNat_mul a b).symm
theorem n_sub {a b : Nat} (h : b ≤ a) : nI a - nI b = nI (a - b) := by
  have e : nI a = nI (a - b) + nI b := by rw [nI_add, Nat.sub_add_cancel h]
  rw [e, Int32.add_sub_cancel]
theorem n_m1 {n : Nat} (h : n < 2 ^ 31) : ¬ nI n = -1 := by
  intro q
  have a := nI_toInt h
  rw [q, show ((-1 : Int32).toInt) = -1 by decide] at a
  omega
theorem n_lt0 : ((-1 : Int32) < 0) := by decide
theorem tc0 : (0 : Int32).toNatClampNeg = 0 := by decide
theorem tc1 : (1 : Int32).toNatClampNeg = 1 := by decide
theorem tc2 : (2 : Int32).toNatClampNeg = 2 := by decide
theorem tc3 : (3 : Int32).toNatClampNeg = 3 := by decide
theorem tc4 : (4 : Int32).toNatClampNeg = 4 := by decide
theorem tc5 : (5 : Int32).toNatClampNeg = 5 := by decide
theorem tc6 : (6 : Int32).toNatClampNeg = 6 := by decide
theorem gi0 : gx_in (0 : Int32) 131 := by decide
theorem gi1 : gx_in (1 : Int32) 131 := by decide
theorem gi2 : gx_in (2 : Int32) 131 := by decide
theorem gi3 : gx_in (3 : Int32) 131 := by decide
theorem gi4 : gx_in (4 : Int32) 131 := by decide
theorem gi5 : gx_in (5 : Int32) 131 := by decide
theorem gi6 : gx_in (6 : Int32) 131 := by decide
theorem z_same (f : Nat → Int32) (k : Nat) (x : Int32) : upd f k x k = x := by simp [upd]
theorem z_other {f : Nat → Int32} {k j : Nat} {x : Int32} (h : j ≠ k) : upd f k x j = f j := by simp [upd, h]
def pI : Option Nat → Int32
  | none => -1
  | some p => nI p
/-- serving: the admiral, or somebody with a superior -/
def hv (P : Nat → Option Nat) (o : Nat) : Bool := o == 0 || (P o).isSome
def b1 (b : Bool) : Int32 := if b then 1 else 0
/-- the chain of superiors from x on -/
def cX (P : Nat → Option Nat) : Option Nat → List Nat → Prop
  | x, [] => x = none
  | x, p :: l => x = some p ∧ cX P (P p) l
def an (P : Nat → Option Nat) : Nat → Nat → List Nat
  | 0, _ => []
  | n + 1, o => match P o with
    | none => []
    | some p => p :: an P n p
def ch (P : Nat → Option Nat) (o : Nat) : List Nat := an P 10 o
def wT (A : Nat) (R : Nat → Nat) (P : Nat → Option Nat) : Prop :=
  1 ≤ A ∧ A ≤ 12 ∧ P 0 = none ∧ (∀ o, A ≤ o → P o = none) ∧ (∀ o p, P o = some p → p < A ∧ hv P p = true ∧ R o < R p) ∧ (∀ o, o < A → 1 ≤ R o ∧ R o ≤ 9)
theorem cX_uniq {P : Nat → Option Nat} : ∀ (l m : List Nat) (x : Option Nat), cX P x l → cX P x m → l = m := by
  intro l
  induction l with
  | nil =>
    intro m x h1 h2
    cases m with
    | nil => rfl
    | cons q m =>
      have e : x = none := h1
      have e2 : x = some q := h2.1
      rw [e] at e2
      cases e2
  | cons p l ih =>
    intro m x h1 h2
    cases m with
    | nil =>
      have e : x = none := h2
      have e2 : x = some p := h1.1
      rw [e] at e2
      cases e2
    | cons q m =>
      have e : some p = some q := h1.1.symm.trans h2.1
      cases e
      rw [ih m (P p) h1.2 h2.2]
theorem an_cX {A : Nat} {R : Nat → Nat} {P : Nat → Option Nat} (h : wT A R P) : ∀ (n o : Nat), o < A → 10 ≤ R o + n → cX P (P o) (an P n o) ∧ (an P n o).length + R o ≤ 9 := by
  obtain ⟨h1, h2, h3, h4, h5, h6⟩ := h
  intro n
  induction n with
  | zero =>
    intro o ho hr
    have := (h6 o ho).2
    omega
  | succ n ih =>
    intro o ho hr
    cases e : P o with
    | none =>
      have ea : an P (n + 1) o = [] := by simp [an, e]
      rw [ea]
      have := (h6 o ho).2
      exact ⟨rfl, by simpa using this⟩
    | some p =>
      have ea : an P (n + 1) o = p :: an P n p := by simp [an, e]
      obtain ⟨g1, g2, g3⟩ := h5 o p e
      obtain ⟨i1, i2⟩ := ih p g1 (by omega)
      rw [ea]
      refine ⟨⟨rfl, i1⟩, ?_⟩
      simp only [List.length_cons]
      omega
theorem ch_none {P : Nat → Option Nat} {o : Nat} (h : P o = none) : ch P o = [] := by simp [ch, an, h]
theorem ch_cX {A : Nat} {R : Nat → Nat} {P : Nat → Option Nat} (h : wT A R P) (o : Nat) : cX P (P o) (ch P o) ∧ (ch P o).length ≤ 8 := by
  by_cases ho : o < A
  · obtain ⟨i1, i2⟩ := an_cX h 10 o ho (by omega)
    have := (h.2.2.2.2.2 o ho).1
    exact ⟨i1, by unfold ch; omega⟩
  · have e := h.2.2.2.1 o (by omega)
    rw [ch_none e, e]
    exact ⟨rfl, by simp⟩
theorem ch_some {A : Nat} {R : Nat → Nat} {P : Nat → Option Nat} (h : wT A R P) {o p : Nat} (e : P o = some p) : ch P o = p :: ch P p :=
  cX_uniq _ _ _ (ch_cX h o).1 ⟨e, (ch_cX h p).1⟩
theorem cX_mem {A : Nat} {R : Nat → Nat} {P : Nat → Option Nat} (h : wT A R P) : ∀ (l : List Nat) (o : Nat), cX P (P o) l → ∀ q ∈ l, q < A ∧ hv P q = true ∧ R o < R q := by
  intro l
  induction l with
  | nil => intro o _ q hq; cases hq
  | cons p l ih =>
    intro o hc q hq
    obtain ⟨g1, g2, g3⟩ := h.2.2.2.2.1 o p hc.1
    rcases List.mem_cons.mp hq with e | hq
    · rw [e]; exact ⟨g1, g2, g3⟩
    · obtain ⟨i1, i2, i3⟩ := ih p hc.2 q hq
      exact ⟨i1, i2, Nat.lt_trans g3 i3⟩
theorem ch_mem {A : Nat} {R : Nat → Nat} {P : Nat → Option Nat} (h : wT A R P) {o q : Nat} (hq : q ∈ ch P o) : q < A ∧ hv P q = true ∧ R o < R q := cX_mem h _ o (ch_cX h o).1 q hq
theorem ch_self {A : Nat} {R : Nat → Nat} {P : Nat → Option Nat} (h : wT A R P) (o : Nat) : o ∉ ch P o := fun hq => Nat.lt_irrefl _ (ch_mem h hq).2.2
theorem hv_lt {A : Nat} {R : Nat → Nat} {P : Nat → Option Nat} (h : wT A R P) {o : Nat} (ho : hv P o = true) : o < A := by
  rcases Nat.lt_or_ge o A with q | q
  · exact q
  · have e := h.2.2.2.1 o q
    have h1 := h.1
    unfold hv at ho
    rw [e] at ho
    simp at ho
    omega
theorem hv_some {P : Nat → Option Nat} {o p : Nat} (e : P o = some p) : hv P o = true := by simp [hv, e]
theorem hv_0 (P : Nat → Option Nat) : hv P 0 = true := by simp [hv]
theorem hv_cases {P : Nat → Option Nat} {o : Nat} (h : hv P o = true) : o = 0 ∨ ∃ p, P o = some p := by
  unfold hv at h
  cases e : P o with
  | none => rw [e] at h; simp at h; exact Or.inl h
  | some p => exact Or.inr ⟨p, rfl⟩
theorem hv_no {P : Nat → Option Nat} {o : Nat} (h : hv P o = false) : o ≠ 0 ∧ P o = none := by
  unfold hv at h
  cases e : P o with
  | none => rw [e] at h; simp at h; exact ⟨h, rfl⟩
  | some p => rw [e] at h; simp at h
/-- the last of a chain of a serving officer is the admiral -/
theorem ch_0 {A : Nat} {R : Nat → Nat} {P : Nat → Option Nat} (h : wT A R P) : ∀ (l : List Nat) (o : Nat), cX P (P o) l → hv P o = true → o = 0 ∨ 0 ∈ l := by
  intro l
  induction l with
  | nil =>
    intro o hc ho
    rcases hv_cases ho with e | ⟨p, e⟩
    · exact Or.inl e
    · have e2 : P o = none := hc
      rw [e] at e2
      cases e2
  | cons p l ih =>
    intro o hc ho
    rcases ih p hc.2 (h.2.2.2.2.1 o p hc.1).2.1 with e | e
    · exact Or.inr (by rw [e]; exact List.mem_cons_self)
    · exact Or.inr (List.mem_cons_of_mem _ e)
theorem ch_top {A : Nat} {R : Nat → Nat} {P : Nat → Option Nat} (h : wT A R P) {o : Nat} (ho : hv P o = true) : o = 0 ∨ 0 ∈ ch P o := ch_0 h _ o (ch_cX h o).1 ho
/-! the officers as the class and as the reference hold them -/
def zO (A : Nat) (R L F : Nat → Nat) (P : Nat → Option Nat) (σ : OS) : Prop :=
  σ.1 5 = nI A ∧ (∀ o, o < 12 → σ.2 4 o = b1 (hv P o)) ∧ ∀ o, o < A → σ.2 0 o = nI (R o) ∧ σ.2 1 o = nI (L o) ∧ σ.2 2 o = nI (F o) ∧ σ.2 3 o = pI (P o)
def zM (A : Nat) (R L F : Nat → Nat) (P : Nat → Option Nat) (s : Nat → Int32) : Prop :=
  s 0 = nI A ∧ ∀ o, o < A → s (7 + 5 * o + 0) = b1 (hv P o) ∧ s (7 + 5 * o + 1) = nI (R o) ∧ s (7 + 5 * o + 2) = nI (L o) ∧ s (7 + 5 * o + 3) = nI (F o) ∧ s (7 + 5 * o + 4) = pI (P o)
theorem n_off (o w : Nat) : ((7 : Int32) + (5 : Int32) * nI o) + nI w = nI (7 + 5 * o + w) := by
  show (nI 7 + nI 5 * nI o) + nI w = _
  rw [n_mul, nI_add, nI_add]
theorem m_of {σ : OS} {o w : Nat} (ho : o < 12) (hw : w < 5) : fX9_of σ (nI o) (nI w) = some (σ.2 1 (7 + 5 * o + w)) := by
  unfold fX9_of
  rw [n_off, gx_chk_t (nI_in (by omega) (by decide)), nI_clamp (by omega)]
theorem m_sets {σ : OS} {o w : Nat} {v : Int32} (ho : o < 12) (hw : w < 5) : fX9_sets σ (nI o) (nI w) v = some (os_sa σ 1 (7 + 5 * o + w) v) := by
  unfold fX9_sets
  rw [n_off, gx_chk_t (nI_in (by omega) (by decide)), nI_clamp (by omega)]
section Off
variable {A : Nat} {R L F : Nat → Nat} {P : Nat → Option Nat} {σ : OS}
theorem m_of0 (hA : A ≤ 12) (h : zM A R L F P (σ.2 1)) {o : Nat} (ho : o < A) : fX9_of σ (nI o) (0 : Int32) = some (b1 (hv P o)) := by
  rw [show fX9_of σ (nI o) (0 : Int32) = _ from m_of (w := 0) (by omega) (by omega), (h.2 o ho).1]
theorem m_of1 (hA : A ≤ 12) (h : zM A R L F P (σ.2 1)) {o : Nat} (ho : o < A) : fX9_of σ (nI o) (1 : Int32) = some (nI (R o)) := by
  rw [show fX9_of σ (nI o) (1 : Int32) = _ from m_of (w := 1) (by omega) (by omega), (h.2 o ho).2.1]
theorem m_of2 (hA : A ≤ 12) (h : zM A R L F P (σ.2 1)) {o : Nat} (ho : o < A) : fX9_of σ (nI o) (2 : Int32) = some (nI (L o)) := by
  rw [show fX9_of σ (nI o) (2 : Int32) = _ from m_of (w := 2) (by omega) (by omega), (h.2 o ho).2.2.1]
theorem m_of3 (hA : A ≤ 12) (h : zM A R L F P (σ.2 1)) {o : Nat} (ho : o < A) : fX9_of σ (nI o) (3 : Int32) = some (nI (F o)) := by
  rw [show fX9_of σ (nI o) (3 : Int32) = _ from m_of (w := 3) (by omega) (by omega), (h.2 o ho).2.2.2.1]
theorem m_of4 (hA : A ≤ 12) (h : zM A R L F P (σ.2 1)) {o : Nat} (ho : o < A) : fX9_of σ (nI o) (4 : Int32) = some (pI (P o)) := by
  rw [show fX9_of σ (nI o) (4 : Int32) = _ from m_of (w := 4) (by omega) (by omega), (h.2 o ho).2.2.2.2]
theorem b1_t : b1 true = 1 := rfl
theorem b1_f : b1 false = 0 := rfl
theorem m_in_t {a b c : Nat} (h1 : b ≤ a) (h2 : a ≤ c) (hc : c < 2 ^ 31) : fX9_in (nI a) (nI b) (nI c) = some 1 := by
  unfold fX9_in
  rw [if_neg (nI_nlt h1 (by omega)), if_neg (nI_nlt h2 hc)]
theorem m_in_f {p : Int32} {b c : Nat} (hb : b < 2 ^ 31) (hc : c < 2 ^ 31) (h : ¬ ∃ a : Nat, b ≤ a ∧ a ≤ c ∧ p = nI a) : fX9_in p (nI b) (nI c) = some 0 := by
  unfold fX9_in
  by_cases h0 : p < nI b
  · rw [if_pos h0]
  · rw [if_neg h0]
    by_cases h1 : nI c < p
    · rw [if_pos h1]
    · exfalso
      have hp : ¬ p < 0 := by
        rw [Int32.lt_iff_toInt_lt, nI_toInt hb] at h0
        rw [Int32.lt_iff_toInt_lt, Int32.toInt_zero]
        omega
      obtain ⟨j, hj, rfl⟩ := nI_of hp
      rw [nI_ltI hj hb] at h0
      rw [nI_ltI hc hj] at h1
      exact h ⟨j, by omega, by omega, rfl⟩
theorem m_is_t (hw : wT A R P) (h : zM A R L F P (σ.2 1)) {o : Nat} (ho : hv P o = true) : fX9_is σ (nI o) = some 1 := by
  have hA := hw.2.1
  have hlt := hv_lt hw ho
  unfold fX9_is
  rw [gx_chk_t gi0, tc0, show os_a σ 1 0 = nI A from h.1, show (1 : Int32) = nI 1 from rfl, n_sub hw.1, show (0 : Int32) = nI 0 from rfl, m_in_t (Nat.zero_le o) (by omega) (by omega), gx_b_some, if_neg (by decide), show nI 0 = (0 : Int32) from rfl, m_of0 hA h hlt, gx_b_some, ho, b1_t, if_pos (show (1 : Int32) = nI 1 from rfl)]
theorem m_is_f (hw : wT A R P) (h : zM A R L F P (σ.2 1)) {p : Int32} (ho : ¬ ∃ o, p = nI o ∧ hv P o = true) : fX9_is σ p = some 0 := by
  have hA := hw.2.1
  have h1 := hw.1
  unfold fX9_is
  rw [gx_chk_t gi0, tc0, show os_a σ 1 0 = nI A from h.1, show (1 : Int32) = nI 1 from rfl, n_sub hw.1, show (0 : Int32) = nI 0 from rfl]
  by_cases hx : ∃ a : Nat, 0 ≤ a ∧ a ≤ A - 1 ∧ p = nI a
  · obtain ⟨a, -, ha, rfl⟩ := hx
    have hf : hv P a = false := by
      cases e : hv P a with
      | false => rfl
      | true => exact absurd ⟨a, rfl, e⟩ ho
    rw [m_in_t (Nat.zero_le a) ha (by omega), gx_b_some, if_neg (by decide), show nI 0 = (0 : Int32) from rfl, m_of0 hA h (by omega), gx_b_some, hf, b1_f, if_neg (by decide)]
  · rw [m_in_f (by omega) (by omega) hx, gx_b_some, if_pos (show (0 : Int32) = nI 0 from rfl)]
theorem c_serves_t (hw : wT A R P) (h : zO A R L F P σ) {o : Nat} (ho : hv P o = true) : fX3_serves σ (nI o) = some 1 := by
  have hA := hw.2.1
  have hlt := hv_lt hw ho
  unfold fX3_serves
  rw [if_neg (nI_pos (by omega)), if_neg (show ¬ (12 : Int32) ≤ nI o from nI_ge (b := 12) (by omega) (by decide)), gx_chk_t (nI_in (by omega) (by decide)), nI_clamp (by omega), show os_a σ 4 o = b1 (hv P o) from h.2.1 o (by omega), ho, b1_t, if_neg (by decide)]
theorem c_serves_f (hw : wT A R P) (h : zO A R L F P σ) {p : Int32} (ho : ¬ ∃ o, p = nI o ∧ hv P o = true) : fX3_serves σ p = some 0 := by
  unfold fX3_serves
  by_cases h0 : p < 0
  · rw [if_pos h0]
  · rw [if_neg h0]
    obtain ⟨j, hj, rfl⟩ := nI_of h0
    by_cases h1 : (12 : Int32) ≤ nI j
    · rw [if_pos h1]
    · rw [if_neg h1]
      have hj12 : j < 12 := by
        have := mt (nI_leI (a := 12) (b := j) (by decide) hj).mpr h1
        omega
      have hf : hv P j = false := by
        cases e : hv P j with
        | false => rfl
        | true => exact absurd ⟨j, rfl, e⟩ ho
      rw [gx_chk_t (nI_in hj12 (by decide)), nI_clamp (by omega), show os_a σ 4 j = b1 (hv P j) from h.2.1 j hj12, hf, b1_f, if_pos rfl]
end Off
