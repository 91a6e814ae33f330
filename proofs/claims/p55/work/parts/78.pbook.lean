/-! the book: both sides -/
section Perms
variable {α : Type}
theorem pm_erase : ∀ (l : List α) (i : Nat) (e : α), l[i]? = some e → l.Perm (e :: l.eraseIdx i) := by
  intro l
  induction l with
  | nil => intro i e h; simp at h
  | cons a l ih =>
    intro i e h
    cases i with
    | zero => simp at h; subst h; exact List.Perm.refl _
    | succ i =>
      have h2 : l[i]? = some e := by simpa using h
      exact ((ih i e h2).cons a).trans (List.Perm.swap _ _ _)
theorem pm_set : ∀ (l : List α) (i : Nat) (e : α), i < l.length → (l.set i e).Perm (e :: l.eraseIdx i) := by
  intro l
  induction l with
  | nil => intro i e h; simp at h
  | cons a l ih =>
    intro i e h
    cases i with
    | zero => exact List.Perm.refl _
    | succ i =>
      have h2 : i < l.length := by simpa using h
      exact ((ih i e h2).cons a).trans (List.Perm.swap _ _ _)
theorem pm_last {l : List α} {e : α} (h : l[l.length - 1]? = some e) : l.Perm (e :: l.dropLast) := by
  have h0 : l ≠ [] := by intro q; rw [q] at h; simp at h
  have h1 := List.dropLast_concat_getLast h0
  have h2 : l.getLast h0 = e := by
    rw [List.getLast_eq_getElem]
    have := List.getElem?_eq_getElem (l := l) (i := l.length - 1) (by have := List.length_pos_iff.mpr h0; omega)
    rw [this] at h
    exact Option.some.inj h
  rw [h2] at h1
  conv => lhs; rw [← h1]
  exact List.perm_middle.trans (by rw [List.append_nil])
end Perms
section Book
variable {B C : List (Nat × Nat)} {σ : OS}
theorem key_one (hB : wB B) {e e' : Nat × Nat} (h : e ∈ B) (h' : e' ∈ B) (hk : e.1 = e'.1) : e = e' := by
  have hn := List.pairwise_iff_getElem.mp hB.2.1
  obtain ⟨i, hi⟩ := List.getElem?_of_mem h
  obtain ⟨j, hj⟩ := List.getElem?_of_mem h'
  obtain ⟨hil, hi2⟩ := List.getElem?_eq_some_iff.mp hi
  obtain ⟨hjl, hj2⟩ := List.getElem?_eq_some_iff.mp hj
  have hij : i = j := by
    rcases Nat.lt_trichotomy i j with q | q | q
    · have := hn i j (by rw [List.length_map]; exact hil) (by rw [List.length_map]; exact hjl) q
      rw [List.getElem_map, List.getElem_map, hi2, hj2] at this
      exact absurd hk this
    · exact q
    · have := hn j i (by rw [List.length_map]; exact hjl) (by rw [List.length_map]; exact hil) q
      rw [List.getElem_map, List.getElem_map, hi2, hj2] at this
      exact absurd hk.symm this
  rw [hij, hj] at hi
  exact (Option.some.inj hi).symm
theorem wB_perm (h : C.Perm B) (hB : wB B) : wB C := ⟨by rw [h.length_eq]; exact hB.1, (h.map Prod.fst).nodup_iff.mpr hB.2.1, fun e he => hB.2.2 e (h.mem_iff.mp he)⟩
def isL (p : Int32) : Prop := ∃ a : Nat, 97 ≤ a ∧ a ≤ 122 ∧ p = nI a
theorem isL_t {p : Int32} (h : isL p) : fX0_isLetter p = some 1 := by
  obtain ⟨a, h1, h2, rfl⟩ := h
  exact m_in_t (b := 97) (c := 122) h1 h2 (by decide)
theorem isL_f {p : Int32} (h : ¬ isL p) : fX0_isLetter p = some 0 := m_in_f (b := 97) (c := 122) (by decide) (by decide) h
theorem isS_t {p q : Int32} (h : isL p) (h' : isL q) : fX9_isSign p q = some 1 := by
  obtain ⟨a, h1, h2, rfl⟩ := h
  obtain ⟨b, h3, h4, rfl⟩ := h'
  unfold fX9_isSign
  rw [show fX9_in (nI a) (97 : Int32) (122 : Int32) = some 1 from m_in_t (b := 97) (c := 122) h1 h2 (by decide), gx_b_some, if_neg (by decide), show fX9_in (nI b) (97 : Int32) (122 : Int32) = some 1 from m_in_t (b := 97) (c := 122) h3 h4 (by decide), gx_b_some, if_neg (by decide)]
theorem isS_f {p q : Int32} (h : ¬ (isL p ∧ isL q)) : fX9_isSign p q = some 0 := by
  unfold fX9_isSign
  by_cases c : isL p
  · obtain ⟨a, h1, h2, rfl⟩ := c
    rw [show fX9_in (nI a) (97 : Int32) (122 : Int32) = some 1 from m_in_t (b := 97) (c := 122) h1 h2 (by decide), gx_b_some, if_neg (by decide), show fX9_in q (97 : Int32) (122 : Int32) = some 0 from m_in_f (b := 97) (c := 122) (by decide) (by decide) (fun h9 => h ⟨⟨a, h1, h2, rfl⟩, h9⟩), gx_b_some, if_pos rfl]
  · rw [show fX9_in p (97 : Int32) (122 : Int32) = some 0 from m_in_f (b := 97) (c := 122) (by decide) (by decide) c, gx_b_some, if_pos rfl]
theorem c_num {a b : Nat} (h1 : 97 ≤ a) (h2 : a ≤ 122) (h3 : 97 ≤ b) (h4 : b ≤ 122) : fX0_number (nI a) (nI b) = some (nI (26 * a + b - 2619)) := by
  unfold fX0_number
  rw [show (97 : Int32) = nI 97 from rfl, show (26 : Int32) = nI 26 from rfl, n_sub h1, n_mul, nI_add, n_sub (by omega), show (a - 97) * 26 + b - 97 = 26 * a + b - 2619 by omega]
theorem c_find2 (hC : wB C) (hl : σ.1 2 = nI C.length) (ha : ∀ k e, C[k]? = some e → σ.2 0 k = nI (e.1 - 2619) ∧ σ.2 1 k = nI e.2) {a b : Nat} (h1 : 97 ≤ a) (h2 : a ≤ 122) (h3 : 97 ≤ b) (h4 : b ≤ 122) : ∀ (d i n : Nat), i + d = C.length → d < n → (∀ j e, j < i → C[j]? = some e → e.1 ≠ 26 * a + b) → (∃ k e, C[k]? = some e ∧ e.1 = 26 * a + b ∧ fX0_find_2 σ n (nI a) (nI b) (nI i) = some (nI k)) ∨ ((∀ e ∈ C, e.1 ≠ 26 * a + b) ∧ fX0_find_2 σ n (nI a) (nI b) (nI i) = some (-1)) := by
  have h20 := hC.1
  intro d
  induction d with
  | zero =>
    intro i n hi hn hno
    obtain ⟨m, rfl⟩ : ∃ m, n = m + 1 := ⟨n - 1, by omega⟩
    refine Or.inr ⟨fun e he => ?_, ?_⟩
    · obtain ⟨j, hj⟩ := List.getElem?_of_mem he
      exact hno j e (by have := get_lt hj; omega) hj
    · rw [fX0_find_2_s, show os_f σ 2 = nI C.length from hl, n_le (by omega) (by omega), if_pos (by omega)]
  | succ d ih =>
    intro i n hi hn hno
    obtain ⟨m, rfl⟩ : ∃ m, n = m + 1 := ⟨n - 1, by omega⟩
    obtain ⟨e, he⟩ := lt_get (K := C) (k := i) (by omega)
    obtain ⟨k1, k2, k3⟩ := hC.2.2 e (List.mem_of_getElem? he)
    have hs : fX0_find_2 σ (m + 1) (nI a) (nI b) (nI i) = if e.1 = 26 * a + b then some (nI i) else fX0_find_2 σ m (nI a) (nI b) (nI (i + 1)) := by
      rw [fX0_find_2_s, show os_f σ 2 = nI C.length from hl, n_le (by omega) (by omega), if_neg (by omega), gx_chk_t (nI_in (by omega) (by decide)), c_num h1 h2 h3 h4, gx_b_some, nI_clamp (by omega), show os_a σ 0 i = nI (e.1 - 2619) from (ha i e he).1, n_eq (by omega) (by omega), nI_1]
      by_cases c : e.1 = 26 * a + b
      · rw [if_pos c, if_pos (by omega)]
      · rw [if_neg c, if_neg (by omega)]
    rw [hs]
    by_cases c : e.1 = 26 * a + b
    · exact Or.inl ⟨i, e, he, c, by rw [if_pos c]⟩
    · rw [if_neg c]
      exact ih (i + 1) m (by omega) (by omega) (fun j x hj hx => by
        by_cases c2 : j = i
        · rw [c2, he] at hx; cases hx; exact c
        · exact hno j x (by omega) hx)
theorem c_find (hC : wB C) (hl : σ.1 2 = nI C.length) (ha : ∀ k e, C[k]? = some e → σ.2 0 k = nI (e.1 - 2619) ∧ σ.2 1 k = nI e.2) {a b : Nat} (h1 : 97 ≤ a) (h2 : a ≤ 122) (h3 : 97 ≤ b) (h4 : b ≤ 122) : (∃ k e, C[k]? = some e ∧ e.1 = 26 * a + b ∧ fX0_find σ (nI a) (nI b) = some (nI k)) ∨ ((∀ e ∈ C, e.1 ≠ 26 * a + b) ∧ fX0_find σ (nI a) (nI b) = some (-1)) :=
  c_find2 hC hl ha h1 h2 h3 h4 C.length 0 2000 (by omega) (by have := hC.1; omega) (fun j e hj => by omega)
theorem n_off2 (k : Nat) : (91 : Int32) + (2 : Int32) * nI k = nI (91 + 2 * k) := by
  show nI 91 + nI 2 * nI k = _
  rw [n_mul, nI_add]
theorem m_pl2 (hB : wB B) (h : zB B (σ.2 1)) {a b : Nat} (h1 : 97 ≤ a) (h2 : a ≤ 122) (h3 : 97 ≤ b) (h4 : b ≤ 122) : ∀ (d i n : Nat), i + d = B.length → d < n → (∀ j e, j < i → B[j]? = some e → e.1 ≠ 26 * a + b) → (∃ k e, B[k]? = some e ∧ e.1 = 26 * a + b ∧ fX9_placeOf_2 σ n (nI a) (nI b) (nI i) = some (nI k)) ∨ ((∀ e ∈ B, e.1 ≠ 26 * a + b) ∧ fX9_placeOf_2 σ n (nI a) (nI b) (nI i) = some (-1)) := by
  have h20 := hB.1
  intro d
  induction d with
  | zero =>
    intro i n hi hn hno
    obtain ⟨m, rfl⟩ : ∃ m, n = m + 1 := ⟨n - 1, by omega⟩
    refine Or.inr ⟨fun e he => ?_, ?_⟩
    · obtain ⟨j, hj⟩ := List.getElem?_of_mem he
      exact hno j e (by have := get_lt hj; omega) hj
    · rw [fX9_placeOf_2_s, gx_chk_t gi6, tc6, show os_a σ 1 6 = nI B.length from h.1, n_le (by omega) (by omega), if_pos (by omega)]
  | succ d ih =>
    intro i n hi hn hno
    obtain ⟨m, rfl⟩ : ∃ m, n = m + 1 := ⟨n - 1, by omega⟩
    obtain ⟨e, he⟩ := lt_get (K := B) (k := i) (by omega)
    obtain ⟨k1, k2, k3⟩ := hB.2.2 e (List.mem_of_getElem? he)
    have hs : fX9_placeOf_2 σ (m + 1) (nI a) (nI b) (nI i) = if e.1 = 26 * a + b then some (nI i) else fX9_placeOf_2 σ m (nI a) (nI b) (nI (i + 1)) := by
      rw [fX9_placeOf_2_s, gx_chk_t gi6, tc6, show os_a σ 1 6 = nI B.length from h.1, n_le (by omega) (by omega), if_neg (by omega), n_off2, gx_chk_t (nI_in (by omega) (by decide)), nI_clamp (by omega), show os_a σ 1 (91 + 2 * i) = nI e.1 from (h.2 i e he).1, show (26 : Int32) * nI a + nI b = nI (26 * a + b) from by rw [show (26 : Int32) = nI 26 from rfl, n_mul, nI_add], n_eq (by omega) (by omega), nI_1]
    rw [hs]
    by_cases c : e.1 = 26 * a + b
    · exact Or.inl ⟨i, e, he, c, by rw [if_pos c]⟩
    · rw [if_neg c]
      exact ih (i + 1) m (by omega) (by omega) (fun j x hj hx => by
        by_cases c2 : j = i
        · rw [c2, he] at hx; cases hx; exact c
        · exact hno j x (by omega) hx)
theorem m_place (hB : wB B) (h : zB B (σ.2 1)) {a b : Nat} (h1 : 97 ≤ a) (h2 : a ≤ 122) (h3 : 97 ≤ b) (h4 : b ≤ 122) : (∃ k e, B[k]? = some e ∧ e.1 = 26 * a + b ∧ fX9_placeOf σ (nI a) (nI b) = some (nI k)) ∨ ((∀ e ∈ B, e.1 ≠ 26 * a + b) ∧ fX9_placeOf σ (nI a) (nI b) = some (-1)) :=
  m_pl2 hB h h1 h2 h3 h4 B.length 0 2000 (by omega) (by have := hB.1; omega) (fun j e hj => by omega)
/-- both sides find it, or neither -/
theorem both_find {τ : OS} (hB : wB B) (h : zB B (σ.2 1)) (hp : C.Perm B) (hl : τ.1 2 = nI C.length) (ha : ∀ k e, C[k]? = some e → τ.2 0 k = nI (e.1 - 2619) ∧ τ.2 1 k = nI e.2) {a b : Nat} (h1 : 97 ≤ a) (h2 : a ≤ 122) (h3 : 97 ≤ b) (h4 : b ≤ 122) : (∃ k j e, C[k]? = some e ∧ B[j]? = some e ∧ e.1 = 26 * a + b ∧ fX0_find τ (nI a) (nI b) = some (nI k) ∧ fX9_placeOf σ (nI a) (nI b) = some (nI j)) ∨ ((∀ e ∈ B, e.1 ≠ 26 * a + b) ∧ fX0_find τ (nI a) (nI b) = some (-1) ∧ fX9_placeOf σ (nI a) (nI b) = some (-1)) := by
  rcases c_find (wB_perm hp hB) hl ha h1 h2 h3 h4 with ⟨k, e, q1, q2, q3⟩ | ⟨q1, q2⟩
  · rcases m_place hB h h1 h2 h3 h4 with ⟨j, e', r1, r2, r3⟩ | ⟨r1, r2⟩
    · have : e = e' := key_one hB (hp.mem_iff.mp (List.mem_of_getElem? q1)) (List.mem_of_getElem? r1) (q2.trans r2.symm)
      subst this
      exact Or.inl ⟨k, j, e, q1, r1, q2, q3, r3⟩
    · exact absurd q2 (r1 e (hp.mem_iff.mp (List.mem_of_getElem? q1)))
  · rcases m_place hB h h1 h2 h3 h4 with ⟨j, e', r1, r2, r3⟩ | ⟨r1, r2⟩
    · exact absurd r2 (q1 e' (hp.mem_iff.mpr (List.mem_of_getElem? r1)))
    · exact Or.inr ⟨r1, q2, r2⟩
theorem c_cm4 (hC : wB C) (hl : σ.1 2 = nI C.length) (ha : ∀ k e, C[k]? = some e → σ.2 0 k = nI (e.1 - 2619) ∧ σ.2 1 k = nI e.2) {x : Nat} (hx : x < 2 ^ 31) : ∀ (d i v n : Nat), i + d = C.length → d < n → fX0_countMeaning_4 σ n (nI x) (nI v) (nI i) = some (nI (v + (C.drop i).countP (fun e => decide (e.2 = x)))) := by
  have h20 := hC.1
  intro d
  induction d with
  | zero =>
    intro i v n hi hn
    obtain ⟨m, rfl⟩ : ∃ m, n = m + 1 := ⟨n - 1, by omega⟩
    rw [fX0_countMeaning_4_s, show os_f σ 2 = nI C.length from hl, n_le (by omega) (by omega), if_pos (by omega), List.drop_of_length_le (by omega)]
    rfl
  | succ d ih =>
    intro i v n hi hn
    obtain ⟨m, rfl⟩ : ∃ m, n = m + 1 := ⟨n - 1, by omega⟩
    have he : C[i]? = some C[i] := List.getElem?_eq_getElem (by omega)
    have hk := (hC.2.2 _ (List.mem_of_getElem? he)).2.2
    rw [fX0_countMeaning_4_s, show os_f σ 2 = nI C.length from hl, n_le (by omega) (by omega), if_neg (by omega), gx_chk_t (nI_in (by omega) (by decide)), nI_clamp (by omega), show os_a σ 1 i = nI C[i].2 from (ha i _ he).2, n_eq (by omega) hx, nI_1, nI_1, List.drop_eq_getElem_cons (show i < C.length by omega), List.countP_cons]
    by_cases c : C[i].2 = x
    · rw [if_pos c, ih (i + 1) (v + 1) m (by omega) (by omega), if_pos (by simp [c])]
      congr 2
      omega
    · rw [if_neg c, ih (i + 1) v m (by omega) (by omega), if_neg (by simp [c])]
      rfl
theorem c_cm (hC : wB C) (hl : σ.1 2 = nI C.length) (ha : ∀ k e, C[k]? = some e → σ.2 0 k = nI (e.1 - 2619) ∧ σ.2 1 k = nI e.2) {x : Nat} (hx : x < 2 ^ 31) : fX0_countMeaning σ (nI x) = some (nI (C.countP (fun e => decide (e.2 = x)))) := by
  have h20 := hC.1
  unfold fX0_countMeaning
  rw [show (0 : Int32) = nI 0 from rfl, c_cm4 hC hl ha hx C.length 0 0 2000 (by omega) (by omega), Nat.zero_add, List.drop_zero]
theorem m_fw23 (hB : wB B) (h : zB B (σ.2 1)) (h0 : σ.1 0 = 0) {x : Nat} (hx : x < 2 ^ 31) : ∀ (d i v n : Nat), i + d = B.length → d < n → fX9_flagsWith_23 n σ (nI x) (nI v) (nI i) = some (nI (v + (B.drop i).countP (fun e => decide (e.2 = x))), σ) := by
  have h20 := hB.1
  intro d
  induction d with
  | zero =>
    intro i v n hi hn
    obtain ⟨m, rfl⟩ : ∃ m, n = m + 1 := ⟨n - 1, by omega⟩
    rw [fX9_flagsWith_23_s, gx_chk_t gi6, tc6, show os_a σ 1 6 = nI B.length from h.1, n_le (by omega) (by omega), if_pos (by omega), List.drop_of_length_le (by omega)]
    rfl
  | succ d ih =>
    intro i v n hi hn
    obtain ⟨m, rfl⟩ : ∃ m, n = m + 1 := ⟨n - 1, by omega⟩
    have he : B[i]? = some B[i] := List.getElem?_eq_getElem (by omega)
    have hk := (hB.2.2 _ (List.mem_of_getElem? he)).2.2
    have e1 : nI (91 + 2 * i) + (1 : Int32) = nI (91 + 2 * i + 1) := nI_1 _
    have e2 : nI v + (1 : Int32) = nI (v + 1) := nI_1 _
    have e3 : nI v + (0 : Int32) = nI v := Int32.add_zero _
    rw [fX9_flagsWith_23_s, gx_chk_t gi6, tc6, show os_a σ 1 6 = nI B.length from h.1, n_le (by omega) (by omega), if_neg (by omega), if_pos (show os_f σ 0 = 0 from h0), n_off2, e1, gx_chk_t (nI_in (by omega) (by decide)), nI_clamp (by omega), show os_a σ 1 (91 + 2 * i + 1) = nI B[i].2 from (h.2 i _ he).2, n_eq (by omega) hx, e2, e3, nI_1, List.drop_eq_getElem_cons (show i < B.length by omega), List.countP_cons]
    by_cases c : B[i].2 = x
    · rw [if_pos c, ih (i + 1) (v + 1) m (by omega) (by omega), if_pos (by simp [c])]
      congr 3
      omega
    · rw [if_neg c, ih (i + 1) v m (by omega) (by omega), if_neg (by simp [c])]
      rfl
/-! changes of the book -/
theorem m_un55 {k left : Nat} (hk : k ≤ left) (hl : left ≤ 19) (r : Int32) : ∀ (d j n : Nat) (σ : OS), j + d = 2 * left → 2 * k ≤ j → d < n → ∃ σ', fX9_unsigns_55 n σ r (nI left) (nI j) = some (0, σ') ∧ (∀ q, q ≠ 14 → σ'.1 q = σ.1 q) ∧ σ'.1 14 = r ∧ (∀ q, q ≠ 1 → σ'.2 q = σ.2 q) ∧ ∀ i, σ'.2 1 i = if i = 6 then nI left else if 91 + 2 * left ≤ i ∧ i < 91 + 2 * left + 2 then 0 else if 91 + j ≤ i ∧ i < 91 + 2 * left then σ.2 1 (i + 2) else σ.2 1 i := by
  intro d
  induction d with
  | zero =>
    intro j n σ hj hkj hn
    obtain ⟨m, rfl⟩ : ∃ m, n = m + 1 := ⟨n - 1, by omega⟩
    have e1 : nI (91 + 2 * left) + (1 : Int32) = nI (91 + 2 * left + 1) := nI_1 _
    refine ⟨os_sf (os_sa (os_sa (os_sa σ 1 (91 + 2 * left) 0) 1 (91 + 2 * left + 1) 0) 1 6 (nI left)) 14 r, ?_, fun q hq => sf_k hq, sf_same, fun q hq => ?_, fun i => ?_⟩
    · rw [fX9_unsigns_55_s, show (2 : Int32) * nI left = nI (2 * left) from n_mul 2 left, n_le (by omega) (by omega), if_pos (by omega), show (91 : Int32) + nI (2 * left) = nI (91 + 2 * left) from nI_add 91 _, e1, gx_chk_t (nI_in (by omega) (by decide)), gx_chk_t (nI_in (by omega) (by decide)), gx_chk_t gi6, nI_clamp (by omega), nI_clamp (by omega), tc6]
      rfl
    · show (os_sa (os_sa (os_sa σ 1 (91 + 2 * left) 0) 1 (91 + 2 * left + 1) 0) 1 6 (nI left)).2 q = σ.2 q
      rw [sa_j hq, sa_j hq, sa_j hq]
    · show (os_sa (os_sa (os_sa σ 1 (91 + 2 * left) 0) 1 (91 + 2 * left + 1) 0) 1 6 (nI left)).2 1 i = _
      by_cases c6 : i = 6
      · rw [if_pos c6, c6, sa_same]
      · rw [if_neg c6, sa_i c6]
        by_cases c1 : i = 91 + 2 * left + 1
        · rw [c1, sa_same, if_pos (by omega)]
        · rw [sa_i c1]
          by_cases c2 : i = 91 + 2 * left
          · rw [c2, sa_same, if_pos (by omega)]
          · rw [sa_i c2, if_neg (by omega), if_neg (by omega)]
  | succ d ih =>
    intro j n σ hj hkj hn
    obtain ⟨m, rfl⟩ : ∃ m, n = m + 1 := ⟨n - 1, by omega⟩
    have e1 : (91 : Int32) + nI j = nI (91 + j) := nI_add 91 j
    have e2 : nI (91 + j) + (2 : Int32) = nI (91 + j + 2) := nI_add _ 2
    obtain ⟨σ', h1, h2, h3, h4, h5⟩ := ih (j + 1) m (os_sa σ 1 (91 + j) (σ.2 1 (91 + j + 2))) (by omega) (by omega) (by omega)
    refine ⟨σ', ?_, h2, h3, fun q hq => (h4 q hq).trans (sa_j hq), fun i => ?_⟩
    · rw [fX9_unsigns_55_s, show (2 : Int32) * nI left = nI (2 * left) from n_mul 2 left, n_le (by omega) (by omega), if_neg (by omega), e1, e2, gx_chk_t (nI_in (by omega) (by decide)), gx_chk_t (nI_in (by omega) (by decide)), nI_clamp (by omega), nI_clamp (by omega), nI_1]
      exact h1
    · rw [h5 i]
      by_cases c6 : i = 6
      · rw [if_pos c6, if_pos c6]
      · rw [if_neg c6, if_neg c6]
        by_cases c7 : 91 + 2 * left ≤ i ∧ i < 91 + 2 * left + 2
        · rw [if_pos c7, if_pos c7]
        · rw [if_neg c7, if_neg c7]
          by_cases c : i = 91 + j
          · subst c
            rw [if_neg (by omega), if_pos (by omega), sa_same]
          · by_cases c3 : 91 + (j + 1) ≤ i ∧ i < 91 + 2 * left
            · rw [if_pos c3, if_pos (by omega), sa_i (by omega)]
            · rw [if_neg c3, if_neg (by omega), sa_i c]
theorem nodup_erase (hB : wB B) (k : Nat) : wB (B.eraseIdx k) := by
  refine ⟨?_, ?_, fun e he => hB.2.2 e (List.mem_of_mem_eraseIdx he)⟩
  · have := hB.1
    have h2 := List.length_eraseIdx_le B k
    omega
  · exact List.Nodup.sublist ((List.eraseIdx_sublist B k).map Prod.fst) hB.2.1
theorem wB_set (hB : wB B) {k : Nat} {e : Nat × Nat} (he : B[k]? = some e) {m : Nat} (hm : m ≤ 99) : wB (B.set k (e.1, m)) := by
  have hk := get_lt he
  have hp := pm_set B k (e.1, m) hk
  refine ⟨by rw [List.length_set]; exact hB.1, ?_, fun x hx => ?_⟩
  · rw [(hp.map Prod.fst).nodup_iff]
    have h2 := ((pm_erase B k e he).map Prod.fst).nodup_iff.mp hB.2.1
    exact h2
  · rcases List.mem_cons.mp (hp.mem_iff.mp hx) with h | h
    · obtain ⟨k1, k2, k3⟩ := hB.2.2 e (List.mem_of_getElem? he)
      rw [h]; exact ⟨k1, k2, hm⟩
    · exact hB.2.2 x (List.mem_of_mem_eraseIdx h)
theorem wB_add (hB : wB B) (hl : B.length < 20) {x m : Nat} (h1 : 2619 ≤ x) (h2 : x < 3295) (hm : m ≤ 99) (hno : ∀ e ∈ B, e.1 ≠ x) : wB (B ++ [(x, m)]) := by
  refine ⟨by simp; omega, ?_, fun e he => ?_⟩
  · rw [List.map_append, List.nodup_append]
    refine ⟨hB.2.1, by simp, fun a ha b hb => ?_⟩
    obtain ⟨e, he, rfl⟩ := List.mem_map.mp ha
    have : b = x := by simpa using hb
    rw [this]
    exact hno e he
  · rcases List.mem_append.mp he with h | h
    · exact hB.2.2 e h
    · rw [List.mem_singleton] at h
      rw [h]; exact ⟨h1, h2, hm⟩
end Book
