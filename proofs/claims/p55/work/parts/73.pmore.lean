/-! greatest depth, places by rank, consistency, the mean -/
def mxd (P : Nat → Option Nat) : Nat → Nat → Nat → Nat
  | v, _, 0 => v
  | v, i, k + 1 => mxd P (if v < (ch P i).length then (ch P i).length else v) (i + 1) k
def ahd (R L : Nat → Nat) (b a : Nat) : Bool := if R b = R a then (if L b = L a then decide (b < a) else decide (L a < L b)) else decide (R a < R b)
theorem ahd_self (R L : Nat → Nat) (a : Nat) : ahd R L a a = false := by simp [ahd]
def cbf (A : Nat) (R L : Nat → Nat) (P : Nat → Option Nat) (a : Nat) : Nat := sr (fun b => i1 (hv P b = true ∧ ahd R L b a = true)) 0 A
/-- who stands at a place, from i on -/
def atp (A : Nat) (R L : Nat → Nat) (P : Nat → Option Nat) (p : Int32) : Nat → Nat → Option Nat
  | _, 0 => none
  | i, k + 1 => if hv P i = true ∧ nI (cbf A R L P i) = p then some i else atp A R L P p (i + 1) k
section More
variable {A : Nat} {R L F : Nat → Nat} {P : Nat → Option Nat} {σ : OS}
theorem c_deep4 (hw : wT A R P) (h : zO A R L F P σ) : ∀ (k i v n : Nat), i + k = A → k < n → v ≤ 8 → fX3_deepest_4 σ n (nI v) (nI i) = some (nI (mxd P v i k)) := by
  have hA := hw.2.1
  intro k
  induction k with
  | zero =>
    intro i v n hi hn hv
    obtain ⟨m, rfl⟩ : ∃ m, n = m + 1 := ⟨n - 1, by omega⟩
    rw [fX3_deepest_4_s, c_A h, n_le (by omega) (by omega), if_pos (by omega)]
    rfl
  | succ k ih =>
    intro i v n hi hn hv
    obtain ⟨m, rfl⟩ : ∃ m, n = m + 1 := ⟨n - 1, by omega⟩
    have hc := (ch_cX hw i).2
    rw [fX3_deepest_4_s, c_A h, n_le (by omega) (by omega), if_neg (by omega), c_climb hw h (by omega), gx_b_some, n_lt (by omega) (by omega), n_ite, nI_1, ih (i + 1) _ m (by omega) (by omega) (by split <;> omega)]
    rfl
theorem c_deepest (hw : wT A R P) (h : zO A R L F P σ) : fX3_deepest σ = some (nI (mxd P 0 0 A)) := by
  have hA := hw.2.1
  unfold fX3_deepest
  rw [show (0 : Int32) = nI 0 from rfl, c_deep4 hw h A 0 0 2000 (by omega) (by omega) (by omega)]
theorem m_gd9 (hw : wT A R P) (h : zM A R L F P (σ.2 1)) : ∀ (k i v n : Nat), i + k = A → k < n → v ≤ 8 → fX9_greatestDepth_9 n σ (nI v) (nI i) = some (nI (mxd P v i k), σ) := by
  have hA := hw.2.1
  intro k
  induction k with
  | zero =>
    intro i v n hi hn hv8
    obtain ⟨m, rfl⟩ : ∃ m, n = m + 1 := ⟨n - 1, by omega⟩
    rw [fX9_greatestDepth_9_s, gx_chk_t gi0, m_A h, n_le (by omega) (by omega), if_pos (by omega)]
    rfl
  | succ k ih =>
    intro i v n hi hn hv8
    obtain ⟨m, rfl⟩ : ∃ m, n = m + 1 := ⟨n - 1, by omega⟩
    have hc := (ch_cX hw i).2
    rw [fX9_greatestDepth_9_s, gx_chk_t gi0, m_A h, n_le (by omega) (by omega), if_neg (by omega), m_of0 hA h (by omega), gx_b_some, m_deep hw h (by omega), gx_b_some, gx_b_some, n_le (by omega) (by omega), nI_1]
    simp only [mxd]
    cases e : hv P i with
    | false =>
      rw [b1_f, if_neg (by decide), ih (i + 1) v m (by omega) (by omega) hv8]
      have e2 := ch_none (hv_no e).2
      rw [e2]
      simp
    | true =>
      rw [b1_t, if_pos rfl]
      by_cases e3 : (ch P i).length ≤ v
      · rw [if_pos e3, if_neg (by omega), ih (i + 1) v m (by omega) (by omega) hv8]
      · rw [if_neg e3, if_pos (by omega), ih (i + 1) _ m (by omega) (by omega) hc]
theorem m_gd (hw : wT A R P) (h : zM A R L F P (σ.2 1)) : fX9_greatestDepth_9 2000 σ (0 : Int32) (0 : Int32) = some (nI (mxd P 0 0 A), σ) := by
  have hA := hw.2.1
  exact m_gd9 hw h A 0 0 2000 (by omega) (by omega) (by omega)
def wL (A : Nat) (L F : Nat → Nat) : Prop := ∀ o, o < A → L o ≤ 100 ∧ F o ≤ 3
theorem c_sorted (hw : wT A R P) (hl : wL A L F) (h : zO A R L F P σ) {b a : Nat} (hb : b < A) (ha : a < A) : fX3_isSortedBefore σ (nI b) (nI a) = some (b1 (ahd R L b a)) := by
  have hA := hw.2.1
  have h1 := (hw.2.2.2.2.2 b hb).2
  have h2 := (hw.2.2.2.2.2 a ha).2
  have h3 := (hl b hb).1
  have h4 := (hl a ha).1
  have gb : gx_in (nI b) 12 := nI_in (by omega) (by decide)
  have ga : gx_in (nI a) 12 := nI_in (by omega) (by decide)
  unfold fX3_isSortedBefore
  simp only [gx_chk_t gb, gx_chk_t ga]
  rw [c_rnk hA h hb, c_rnk hA h ha, c_loy hA h hb, c_loy hA h ha, n_eq (by omega) (by omega), n_eq (by omega) (by omega), n_le (by omega) (by omega), n_le (by omega) (by omega), n_le (by omega) (by omega)]
  unfold ahd
  split
  · split
    · split
      · rw [decide_eq_false (by omega)]; rfl
      · rw [decide_eq_true (by omega)]; rfl
    · split
      · rw [decide_eq_false (by omega)]; rfl
      · rw [decide_eq_true (by omega)]; rfl
  · split
    · rw [decide_eq_false (by omega)]; rfl
    · rw [decide_eq_true (by omega)]; rfl
theorem m_ahead (hw : wT A R P) (hl : wL A L F) (h : zM A R L F P (σ.2 1)) {b a : Nat} (hb : b < A) (ha : a < A) : fX9_isAhead σ (nI b) (nI a) = some (b1 (ahd R L b a)) := by
  have hA := hw.2.1
  have h1 := (hw.2.2.2.2.2 b hb).2
  have h2 := (hw.2.2.2.2.2 a ha).2
  have h3 := (hl b hb).1
  have h4 := (hl a ha).1
  unfold fX9_isAhead
  rw [m_of1 hA h hb, m_of1 hA h ha, m_of2 hA h hb, m_of2 hA h ha]
  simp only [gx_b_some]
  rw [n_eq (by omega) (by omega), n_eq (by omega) (by omega), n_le (by omega) (by omega), n_le (by omega) (by omega), n_le (by omega) (by omega)]
  unfold ahd
  split
  · split
    · split
      · rw [decide_eq_false (by omega)]; rfl
      · rw [decide_eq_true (by omega)]; rfl
    · split
      · rw [decide_eq_false (by omega)]; rfl
      · rw [decide_eq_true (by omega)]; rfl
  · split
    · rw [decide_eq_false (by omega)]; rfl
    · rw [decide_eq_true (by omega)]; rfl
theorem c_cbf4 (hw : wT A R P) (hl : wL A L F) (h : zO A R L F P σ) {a : Nat} (ha : a < A) : ∀ (k i v n : Nat), i + k = A → k < n → fX3_countBefore_4 σ n (nI a) (nI v) (nI i) = some (nI (v + sr (fun b => i1 (hv P b = true ∧ ahd R L b a = true)) i k)) := by
  have hA := hw.2.1
  intro k
  induction k with
  | zero =>
    intro i v n hi hn
    obtain ⟨m, rfl⟩ : ∃ m, n = m + 1 := ⟨n - 1, by omega⟩
    rw [fX3_countBefore_4_s, c_A h, n_le (by omega) (by omega), if_pos (by omega)]
    rfl
  | succ k ih =>
    intro i v n hi hn
    obtain ⟨m, rfl⟩ : ∃ m, n = m + 1 := ⟨n - 1, by omega⟩
    rw [fX3_countBefore_4_s, c_A h, n_le (by omega) (by omega), if_neg (by omega), gx_chk_t (nI_in (by omega) (by decide)), c_srv hw h (by omega), c_sorted hw hl h (by omega) ha, gx_b_some, nI_1, nI_1]
    simp only [sr]
    cases e : hv P i with
    | false => rw [b1_f, if_pos rfl, ih (i + 1) v m (by omega) (by omega), i1_f (by simp)]; congr 2; omega
    | true =>
      rw [b1_t, if_neg (by decide)]
      cases e2 : ahd R L i a with
      | false => rw [b1_f, if_pos rfl, ih (i + 1) v m (by omega) (by omega), i1_f (by simp)]; congr 2; omega
      | true => rw [b1_t, if_neg (by decide), ih (i + 1) (v + 1) m (by omega) (by omega), i1_t (by simp)]; congr 2; omega
theorem c_cbf (hw : wT A R P) (hl : wL A L F) (h : zO A R L F P σ) {a : Nat} (ha : a < A) : fX3_countBefore σ (nI a) = some (nI (cbf A R L P a)) := by
  have hA := hw.2.1
  unfold fX3_countBefore
  rw [show (0 : Int32) = nI 0 from rfl, c_cbf4 hw hl h ha A 0 0 2000 (by omega) (by omega), Nat.zero_add]
  rfl
theorem c_atp2 (hw : wT A R P) (hl : wL A L F) (h : zO A R L F P σ) (p : Int32) : ∀ (k i n : Nat), i + k = A → k < n → fX3_atPlace_2 σ n p (nI i) = some (pI (atp A R L P p i k)) := by
  have hA := hw.2.1
  intro k
  induction k with
  | zero =>
    intro i n hi hn
    obtain ⟨m, rfl⟩ : ∃ m, n = m + 1 := ⟨n - 1, by omega⟩
    rw [fX3_atPlace_2_s, c_A h, n_le (by omega) (by omega), if_pos (by omega)]
    rfl
  | succ k ih =>
    intro i n hi hn
    obtain ⟨m, rfl⟩ : ∃ m, n = m + 1 := ⟨n - 1, by omega⟩
    rw [fX3_atPlace_2_s, c_A h, n_le (by omega) (by omega), if_neg (by omega), gx_chk_t (nI_in (by omega) (by decide)), c_srv hw h (by omega), c_cbf hw hl h (by omega), gx_b_some, nI_1, ih (i + 1) m (by omega) (by omega)]
    simp only [atp]
    cases e : hv P i with
    | false => rw [b1_f, if_pos rfl, if_neg (by simp)]
    | true =>
      rw [b1_t, if_neg (by decide)]
      by_cases e2 : nI (cbf A R L P i) = p
      · rw [if_pos e2, if_pos ⟨rfl, e2⟩]; rfl
      · rw [if_neg e2, if_neg (fun q => e2 q.2)]
theorem c_atp (hw : wT A R P) (hl : wL A L F) (h : zO A R L F P σ) (p : Int32) : fX3_atPlace σ p = some (pI (atp A R L P p 0 A)) := by
  have hA := hw.2.1
  unfold fX3_atPlace
  rw [show (0 : Int32) = nI 0 from rfl, c_atp2 hw hl h p A 0 2000 (by omega) (by omega)]
theorem atp_lt (p : Int32) : ∀ (k i q : Nat), atp A R L P p i k = some q → q < i + k := by
  intro k
  induction k with
  | zero => intro i q h; cases h
  | succ k ih =>
    intro i q h
    unfold atp at h
    split at h
    · cases h; omega
    · have := ih (i + 1) q h
      omega
def obk (P : Nat → Option Nat) (a : Nat) (p : Int32) (σ : OS) (k7 : OS → Int32 → Int32 → Option (Int32 × OS)) (c : Nat) : Option (Int32 × OS) := if hv P a = true ∧ nI c = p then some (nI a, σ) else k7 σ p (nI (a + 1))
theorem m_obr22 (hw : wT A R P) (hl : wL A L F) (h : zM A R L F P (σ.2 1)) {a : Nat} (ha : a < A) (p : Int32) (k7 : OS → Int32 → Int32 → Option (Int32 × OS)) : ∀ (k i v n : Nat), i + k = A → k < n → fX9_officerByRank_22 k7 n σ p (nI a) (nI v) (nI i) = obk P a p σ k7 (v + sr (fun b => i1 (hv P b = true ∧ ahd R L b a = true)) i k) := by
  have hA := hw.2.1
  intro k
  induction k with
  | zero =>
    intro i v n hi hn
    obtain ⟨m, rfl⟩ : ∃ m, n = m + 1 := ⟨n - 1, by omega⟩
    rw [fX9_officerByRank_22_s, gx_chk_t gi0, m_A h, n_le (by omega) (by omega), if_pos (by omega), m_of0 hA h ha, gx_b_some, nI_1, show v + sr (fun b => i1 (hv P b = true ∧ ahd R L b a = true)) i 0 = v from Nat.add_zero v]
    unfold obk
    cases e : hv P a with
    | false => rw [b1_f, if_neg (by decide), if_neg (fun q => by cases q.1)]
    | true =>
      rw [b1_t, if_pos rfl]
      by_cases e2 : nI v = p
      · rw [if_pos e2, if_pos ⟨rfl, e2⟩]
      · rw [if_neg e2, if_neg (fun q => e2 q.2)]
  | succ k ih =>
    intro i v n hi hn
    obtain ⟨m, rfl⟩ : ∃ m, n = m + 1 := ⟨n - 1, by omega⟩
    have e0 : nI v + (0 : Int32) = nI v := Int32.add_zero _
    have e1 : nI v + (1 : Int32) = nI (v + 1) := nI_1 v
    rw [fX9_officerByRank_22_s, gx_chk_t gi0, m_A h, n_le (by omega) (by omega), if_neg (by omega), m_of0 hA h (by omega), gx_b_some, m_ahead hw hl h (by omega) ha, gx_b_some, e0, e1, nI_1, ih (i + 1) v m (by omega) (by omega), ih (i + 1) (v + 1) m (by omega) (by omega)]
    rw [show v + sr (fun b => i1 (hv P b = true ∧ ahd R L b a = true)) i (k + 1) = v + i1 (hv P i = true ∧ ahd R L i a = true) + sr (fun b => i1 (hv P b = true ∧ ahd R L b a = true)) (i + 1) k by simp only [sr]; omega]
    cases e : hv P i with
    | false => rw [b1_f, if_neg (by decide), i1_f (by simp), Nat.add_zero v]
    | true =>
      rw [b1_t, if_pos rfl, n_eq (by omega) (by omega)]
      by_cases e2 : i = a
      · subst e2
        rw [if_pos rfl, ahd_self, i1_f (by simp), Nat.add_zero v]
      · rw [if_neg e2]
        cases e3 : ahd R L i a with
        | false => rw [b1_f, if_pos rfl, i1_f (by simp), Nat.add_zero v]
        | true => rw [b1_t, if_neg (by decide), i1_t (by simp)]
theorem m_obr7 (hw : wT A R P) (hl : wL A L F) (h : zM A R L F P (σ.2 1)) (p : Int32) : ∀ (k i n : Nat), i + k = A → k < n → fX9_officerByRank_7 n σ p (nI i) = (match atp A R L P p i k with
    | none => some (0, os_sf σ 0 1)
    | some q => some (nI q, σ)) := by
  have hA := hw.2.1
  intro k
  induction k with
  | zero =>
    intro i n hi hn
    obtain ⟨m, rfl⟩ : ∃ m, n = m + 1 := ⟨n - 1, by omega⟩
    rw [fX9_officerByRank_7, gx_chk_t gi0, m_A h, n_le (by omega) (by omega), if_pos (by omega)]
    rfl
  | succ k ih =>
    intro i n hi hn
    obtain ⟨m, rfl⟩ : ∃ m, n = m + 1 := ⟨n - 1, by omega⟩
    rw [fX9_officerByRank_7, gx_chk_t gi0, m_A h, n_le (by omega) (by omega), if_neg (by omega), show fX9_officerByRank_22 (fX9_officerByRank_7 m) 2000 σ p (nI i) (0 : Int32) (0 : Int32) = _ from m_obr22 hw hl h (by omega) p _ A 0 0 2000 (by omega) (by omega), Nat.zero_add]
    show obk P i p σ (fX9_officerByRank_7 m) (cbf A R L P i) = _
    unfold obk
    rw [ih (i + 1) m (by omega) (by omega)]
    by_cases e : hv P i = true ∧ nI (cbf A R L P i) = p
    · have e2 : atp A R L P p i (k + 1) = some i := if_pos e
      rw [if_pos e, e2]
    · have e2 : atp A R L P p i (k + 1) = atp A R L P p (i + 1) k := if_neg e
      rw [if_neg e, e2]
theorem c_ways (hw : wT A R P) (h : zO A R L F P σ) {o : Nat} (ho : hv P o = true) : fX3_waysAgree σ (nI o) = some 1 := by
  have hA := hw.2.1
  have hoA := hv_lt hw ho
  have h1 := (hw.2.2.2.2.2 o hoA).2
  have go : gx_in (nI o) 12 := nI_in (by omega) (by decide)
  unfold fX3_waysAgree
  rw [gx_chk_t go, c_climb hw h hoA, gx_b_some, c_sea hw h ho, gx_b_some, if_pos rfl, c_size hw h hoA, gx_b_some, c_ccmd hw h (by omega), gx_b_some, if_pos rfl, c_sup hA h hoA]
  cases e : P o with
  | none => rw [show pI none = -1 from rfl, if_pos rfl]
  | some p =>
    obtain ⟨g1, g2, g3⟩ := hw.2.2.2.2.1 o p e
    have h2 := (hw.2.2.2.2.2 p g1).2
    rw [if_neg (pI_m1 rfl (by omega)), show pI (some p) = nI p from rfl, gx_chk_t (nI_in (by omega) (by decide)), gx_chk_t go, c_rnk hA h g1, c_rnk hA h hoA, n_le (by omega) (by omega), if_neg (by omega)]
def lo9 (L : Nat → Nat) (P : Nat → Option Nat) (o : Nat) : Nat := if hv P o = true then L o else 0
theorem m_mean9 (hw : wT A R P) (h : zM A R L F P (σ.2 1)) {c : Nat} (hc : sr (fun o => i1 (hv P o = true)) 0 A = c) : ∀ (k i v n : Nat), i + k = A → k < n → FP.ddiv (FP.i2d (nI (v + sr (lo9 L P) i k))) (FP.i2d (nI c)) &&& 0x7fffffffffffffff ≤ 0x7ff0000000000000 → fX9_meanLoyalty_9 n σ (nI v) (nI i) = some (FP.ddiv (FP.i2d (nI (v + sr (lo9 L P) i k))) (FP.i2d (nI c)), σ) := by
  have hA := hw.2.1
  intro k
  induction k with
  | zero =>
    intro i v n hi hn hq
    obtain ⟨m, rfl⟩ : ∃ m, n = m + 1 := ⟨n - 1, by omega⟩
    rw [show v + sr (lo9 L P) i 0 = v from Nat.add_zero v] at hq ⊢
    rw [fX9_meanLoyalty_9_s, gx_chk_t gi0, m_A h, n_le (by omega) (by omega), if_pos (by omega), m_many hw h, gx_b_some, hc, gx_chk_t hq]
  | succ k ih =>
    intro i v n hi hn hq
    obtain ⟨m, rfl⟩ : ∃ m, n = m + 1 := ⟨n - 1, by omega⟩
    rw [show v + sr (lo9 L P) i (k + 1) = v + lo9 L P i + sr (lo9 L P) (i + 1) k by simp only [sr]; omega] at hq ⊢
    have e0 : nI v + (0 : Int32) = nI v := Int32.add_zero _
    rw [fX9_meanLoyalty_9_s, gx_chk_t gi0, m_A h, n_le (by omega) (by omega), if_neg (by omega), m_of0 hA h (by omega), gx_b_some, m_of2 hA h (by omega), gx_b_some, e0, nI_add, nI_1, ← ih (i + 1) _ m (by omega) (by omega) hq]
    unfold lo9
    cases e : hv P i with
    | false => rw [b1_f, if_neg (by decide), if_neg (by decide), Nat.add_zero v]
    | true => rw [b1_t, if_pos rfl, if_pos rfl]
end More
