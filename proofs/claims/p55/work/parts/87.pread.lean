/-! commands: what a text says, and the class's reading of it -/
def st (T : Nat → Int32) (L i : Nat) (c : Int32) : Bool := decide (i < L ∧ T i = c)
def btw (T : Nat → Int32) (L i : Nat) (lo hi : Int32) : Bool := decide (i < L ∧ ¬ T i < lo ∧ T i ≤ hi)
def dig (T : Nat → Int32) (L : Nat) : Nat → Nat → Nat → Nat × Nat
  | 0, a, n => (a, n)
  | m + 1, a, n => if btw T L a 48 57 = true then dig T L m (a + 1) (10 * n + (T a).toNatClampNeg - 48) else (a, n)
def num (T : Nat → Int32) (L a most : Nat) : Bool × Nat × Nat := if st T L a 32 = true then (if (dig T L most (a + 1) 0).1 = a + 1 then (false, a + 1, 0) else (true, (dig T L most (a + 1) 0).1, (dig T L most (a + 1) 0).2)) else (false, a, 0)
def alk (T : Nat → Int32) (L : Nat) : Nat → List Int32 → Nat
  | _, [] => 0
  | a, c :: w => if st T L a c = true then 1 + alk T L (a + 1) w else 0
/-- the word at a: its number (0: none), and where reading stops -/
def wd1 (T : Nat → Int32) (L a kd : Nat) (w : List Int32) : Nat × Nat := (if alk T L a w = w.length then kd else 0, a + alk T L a w)
def wrd (T : Nat → Int32) (L a : Nat) : Nat × Nat :=
  if st T L a 97 = true then wd1 T L a 1 [97, 100, 100]
  else if st T L a 109 = true then wd1 T L a 2 [109, 111, 118, 101]
  else if st T L a 102 = true then (if st T L (a + 1) 108 = true then wd1 T L a 5 [102, 108, 97, 103] else wd1 T L a 3 [102, 105, 114, 101])
  else if st T L a 111 = true then wd1 T L a 4 [111, 114, 100, 101, 114]
  else if st T L a 119 = true then wd1 T L a 6 [119, 97, 105, 116]
  else (0, a)
abbrev CR : Type := Bool × Nat × Nat × Int32 × Int32 × Int32
def nm1 (T : Nat → Int32) (L kd : Nat) (a p : Nat) : CR := ((num T L a p).1, (num T L a p).2.1, kd, nI (num T L a p).2.2, 0, 0)
def nm2 (T : Nat → Int32) (L kd : Nat) (a p q : Nat) : CR := if (num T L a p).1 = true then ((num T L (num T L a p).2.1 q).1, (num T L (num T L a p).2.1 q).2.1, kd, nI (num T L a p).2.2, nI (num T L (num T L a p).2.1 q).2.2, 0) else (false, (num T L a p).2.1, kd, 0, 0, 0)
def nm3 (T : Nat → Int32) (L kd : Nat) (a p q r : Nat) : CR := if (nm2 T L kd a p q).1 = true then ((num T L (nm2 T L kd a p q).2.1 r).1, (num T L (nm2 T L kd a p q).2.1 r).2.1, kd, (nm2 T L kd a p q).2.2.2.1, (nm2 T L kd a p q).2.2.2.2.1, nI (num T L (nm2 T L kd a p q).2.1 r).2.2) else nm2 T L kd a p q
def flg (T : Nat → Int32) (L : Nat) (a : Nat) : CR := if st T L a 32 = true then (if btw T L (a + 1) 97 122 = true then (if btw T L (a + 2) 97 122 = true then ((num T L (a + 3) 2).1, (num T L (a + 3) 2).2.1, 5, T (a + 1), T (a + 2), nI (num T L (a + 3) 2).2.2) else (false, a + 2, 5, 0, 0, 0)) else (false, a + 1, 5, 0, 0, 0)) else (false, a, 5, 0, 0, 0)
def wai (T : Nat → Int32) (L : Nat) (a : Nat) : CR := if st T L a 32 = true then nm1 T L 6 a 2 else (true, a, 6, 1, 0, 0)
def cmd (T : Nat → Int32) (L a : Nat) : CR :=
  if (wrd T L a).1 = 1 then nm3 T L 1 (wrd T L a).2 2 1 3
  else if (wrd T L a).1 = 2 then nm2 T L 2 (wrd T L a).2 2 2
  else if (wrd T L a).1 = 3 then nm1 T L 3 (wrd T L a).2 2
  else if (wrd T L a).1 = 4 then nm3 T L 4 (wrd T L a).2 2 2 3
  else if (wrd T L a).1 = 5 then flg T L (wrd T L a).2
  else if (wrd T L a).1 = 6 then wai T L (wrd T L a).2
  else (false, (wrd T L a).2, 0, 0, 0, 0)
def nxt (T : Nat → Int32) (L p : Nat) : CR := if p = 0 then cmd T L 0 else if st T L p 59 = true then cmd T L (p + 1) else (false, p, 0, 0, 0, 0)
/-- all commands from p on -/
def prs (T : Nat → Int32) (L : Nat) : Nat → Nat → Bool × Nat × List (Nat × Int32 × Int32 × Int32)
  | 0, p => (false, p, [])
  | n + 1, p => if (nxt T L p).1 = true then (if (nxt T L p).2.1 = L then (true, L, [(nxt T L p).2.2]) else ((prs T L n (nxt T L p).2.1).1, (prs T L n (nxt T L p).2.1).2.1, (nxt T L p).2.2 :: (prs T L n (nxt T L p).2.1).2.2)) else (false, (nxt T L p).2.1, [])
section Spec
variable {T : Nat → Int32} {L : Nat}
theorem st_t {i : Nat} {c : Int32} : st T L i c = true ↔ i < L ∧ T i = c := decide_eq_true_iff
theorem btw_t {i : Nat} {lo hi : Int32} : btw T L i lo hi = true ↔ i < L ∧ ¬ T i < lo ∧ T i ≤ hi := decide_eq_true_iff
theorem btw_n {i b c : Nat} (hb : b < 2 ^ 31) (hc : c < 2 ^ 31) (h : btw T L i (nI b) (nI c) = true) : ∃ x, b ≤ x ∧ x ≤ c ∧ T i = nI x := by
  obtain ⟨h1, h2, h3⟩ := btw_t.mp h
  have hp : ¬ T i < 0 := by
    rw [Int32.lt_iff_toInt_lt, nI_toInt hb] at h2
    rw [Int32.lt_iff_toInt_lt, Int32.toInt_zero]
    omega
  obtain ⟨j, hj, e⟩ := nI_of hp
  rw [e, nI_ltI hj hb] at h2
  rw [e, nI_leI hj hc] at h3
  exact ⟨j, by omega, h3, e⟩
theorem dig_le : ∀ (m a n : Nat), a ≤ (dig T L m a n).1 ∧ ((dig T L m a n).1 ≤ L ∨ (dig T L m a n).1 = a) ∧ (dig T L m a n).2 < (n + 1) * 10 ^ m := by
  intro m
  induction m with
  | zero => intro a n; exact ⟨Nat.le_refl _, Or.inr rfl, by show n < (n + 1) * 1; omega⟩
  | succ m ih =>
    intro a n
    by_cases c : btw T L a 48 57 = true
    · have e : dig T L (m + 1) a n = dig T L m (a + 1) (10 * n + (T a).toNatClampNeg - 48) := if_pos c
      obtain ⟨x, x1, x2, x3⟩ := btw_n (b := 48) (c := 57) (by decide) (by decide) c
      obtain ⟨i1', i2, i3⟩ := ih (a + 1) (10 * n + (T a).toNatClampNeg - 48)
      have hl := (btw_t.mp c).1
      rw [e]
      refine ⟨by omega, by omega, ?_⟩
      have hx : (T a).toNatClampNeg = x := by rw [x3]; exact nI_clamp (by omega)
      rw [hx] at i3 ⊢
      refine Nat.lt_of_lt_of_le i3 ?_
      have h1 : 10 * n + x - 48 + 1 ≤ (n + 1) * 10 := by omega
      calc (10 * n + x - 48 + 1) * 10 ^ m ≤ ((n + 1) * 10) * 10 ^ m := Nat.mul_le_mul_right _ h1
        _ = (n + 1) * 10 ^ (m + 1) := by rw [Nat.mul_assoc, Nat.pow_succ, Nat.mul_comm 10]
    · have e : dig T L (m + 1) a n = (a, n) := if_neg c
      rw [e]
      refine ⟨Nat.le_refl _, Or.inr rfl, ?_⟩
      have : 1 ≤ 10 ^ (m + 1) := Nat.pow_pos (by decide)
      calc n < (n + 1) * 1 := by omega
        _ ≤ (n + 1) * 10 ^ (m + 1) := Nat.mul_le_mul_left _ this
theorem num_le {a most : Nat} (hm : most ≤ 3) : a ≤ (num T L a most).2.1 ∧ ((num T L a most).2.1 ≤ L ∨ (num T L a most).2.1 = a) ∧ (num T L a most).2.2 < 1000 := by
  unfold num
  by_cases c : st T L a 32 = true
  · have hl := (st_t.mp c).1
    obtain ⟨i1', i2, i3⟩ := dig_le (T := T) (L := L) most (a + 1) 0
    have h10 : 10 ^ most ≤ 10 ^ 3 := Nat.pow_le_pow_right (by omega) hm
    rw [if_pos c]
    by_cases c2 : (dig T L most (a + 1) 0).1 = a + 1
    · rw [if_pos c2]; refine ⟨?_, ?_, ?_⟩ <;> simp only [] <;> omega
    · rw [if_neg c2]; refine ⟨?_, ?_, ?_⟩ <;> simp only [] <;> omega
  · rw [if_neg c]; exact ⟨Nat.le_refl _, Or.inr rfl, by show 0 < 1000; decide⟩
theorem alk_le : ∀ (w : List Int32) (a : Nat), alk T L a w ≤ w.length ∧ (a + alk T L a w ≤ L ∨ alk T L a w = 0) := by
  intro w
  induction w with
  | nil => intro a; exact ⟨Nat.le_refl _, Or.inr rfl⟩
  | cons c w ih =>
    intro a
    obtain ⟨i1', i2⟩ := ih (a + 1)
    by_cases h : st T L a c = true
    · have e : alk T L a (c :: w) = 1 + alk T L (a + 1) w := if_pos h
      have hl := (st_t.mp h).1
      rw [e, List.length_cons]
      omega
    · have e : alk T L a (c :: w) = 0 := if_neg h
      rw [e]
      exact ⟨Nat.zero_le _, Or.inr rfl⟩
end Spec
/-! the class's reader -/
def frS (s s' : OS) : Prop := ∀ k, k ≠ 1 → s'.1 k = s.1 k
section Cread
variable {L : Nat} {s t : OS}
theorem r_st (hL : L ≤ 60) (ht : t.1 1 = nI L) {i : Nat} (hi : i < 2 ^ 31) (c : Int32) : fX5_stands (s, t) (nI i) c = some (b1 (st (t.2 0) L i c)) := by
  unfold fX5_stands
  rw [show os_f (s, t).2 1 = nI L from ht, n_le (by omega) hi]
  by_cases h : L ≤ i
  · rw [if_pos h, show st (t.2 0) L i c = false from decide_eq_false (fun q => by omega)]
    rfl
  · rw [if_neg h, gx_chk_t (nI_in (by omega) (by decide)), nI_clamp hi]
    by_cases h2 : t.2 0 i = c
    · rw [if_pos (show os_a (s, t).2 0 i = c from h2), show st (t.2 0) L i c = true from decide_eq_true ⟨by omega, h2⟩]
      rfl
    · rw [if_neg (show ¬ os_a (s, t).2 0 i = c from h2), show st (t.2 0) L i c = false from decide_eq_false (fun q => h2 q.2)]
      rfl
theorem r_acc (hL : L ≤ 60) (ht : t.1 1 = nI L) {a : Nat} (hs : s.1 1 = nI a) (ha : a ≤ 100) (c : Int32) : ∃ s', fX5_accept (s, t) c = some (b1 (st (t.2 0) L a c), (s', t)) ∧ s'.1 1 = nI (if st (t.2 0) L a c = true then a + 1 else a) ∧ frS s s' := by
  unfold fX5_accept
  rw [show os_f (s, t).1 1 = nI a from hs, r_st hL ht (by omega), gx_b_some]
  cases st (t.2 0) L a c with
  | true =>
    rw [show b1 true = 1 from rfl, if_neg one0, nI_1]
    exact ⟨_, rfl, sf_same, fun k hk => sf_k hk⟩
  | false =>
    rw [show b1 false = 0 from rfl, if_pos rfl]
    exact ⟨s, rfl, hs, fun k hk => rfl⟩
theorem r_btw (hL : L ≤ 60) (ht : t.1 1 = nI L) {a : Nat} (hs : s.1 1 = nI a) (ha : a ≤ 100) (lo hi : Int32) : ∃ s', fX5_readBetween (s, t) lo hi = some (if btw (t.2 0) L a lo hi = true then t.2 0 a else -1, (s', t)) ∧ s'.1 1 = nI (if btw (t.2 0) L a lo hi = true then a + 1 else a) ∧ frS s s' := by
  unfold fX5_readBetween
  rw [show os_f (s, t).1 1 = nI a from hs, show os_f (s, t).2 1 = nI L from ht, n_le (by omega) (by omega)]
  by_cases h : L ≤ a
  · have e : btw (t.2 0) L a lo hi = false := decide_eq_false (fun q => by omega)
    rw [if_pos h, e]
    exact ⟨s, rfl, hs, fun _ _ => rfl⟩
  · have g : gx_in (nI a) 60 := nI_in (by omega) (by decide)
    rw [if_neg h]
    simp only [gx_chk_t g]
    rw [nI_clamp (by omega)]
    by_cases h1 : t.2 0 a < lo
    · have e : btw (t.2 0) L a lo hi = false := decide_eq_false (fun q => q.2.1 h1)
      rw [if_pos (show os_a (s, t).2 0 a < lo from h1), e]
      exact ⟨s, rfl, hs, fun _ _ => rfl⟩
    · by_cases h2 : t.2 0 a ≤ hi
      · have e : btw (t.2 0) L a lo hi = true := decide_eq_true ⟨by omega, h1, h2⟩
        rw [if_neg (show ¬ os_a (s, t).2 0 a < lo from h1), if_pos (show os_a (s, t).2 0 a ≤ hi from h2), e, nI_1]
        exact ⟨_, rfl, sf_same, fun k hk => sf_k hk⟩
      · have e : btw (t.2 0) L a lo hi = false := decide_eq_false (fun q => h2 q.2.2)
        rw [if_neg (show ¬ os_a (s, t).2 0 a < lo from h1), if_neg (show ¬ os_a (s, t).2 0 a ≤ hi from h2), e]
        exact ⟨s, rfl, hs, fun _ _ => rfl⟩
theorem r_num15 (hL : L ≤ 60) (ht : t.1 1 = nI L) {most : Nat} (hmost : most ≤ 3) : ∀ (m d a n fu : Nat) (s : OS), d + m = most → m < fu → s.1 1 = nI a → a + m ≤ 100 → n < 10 ^ d → ∃ s', fX5_readNumber_15 fu (s, t) (nI most) (nI n) (nI d) = some (if d = 0 ∧ 0 < m ∧ (dig (t.2 0) L m a n).1 = a then -1 else nI (dig (t.2 0) L m a n).2, (s', t)) ∧ s'.1 1 = nI (dig (t.2 0) L m a n).1 ∧ frS s s' := by
  intro m
  induction m with
  | zero =>
    intro d a n fu s hd hfu hs ha hn
    obtain ⟨f, rfl⟩ : ∃ f, fu = f + 1 := ⟨fu - 1, by omega⟩
    rw [fX5_readNumber_15_s, n_le (by omega) (by omega), if_pos (by omega)]
    refine ⟨s, ?_, hs, fun _ _ => rfl⟩
    rw [if_neg (fun q => Nat.lt_irrefl 0 q.2.1)]
    rfl
  | succ m ih =>
    intro d a n fu s hd hfu hs ha hn
    obtain ⟨f, rfl⟩ : ∃ f, fu = f + 1 := ⟨fu - 1, by omega⟩
    have h10 : 10 ^ d ≤ 10 ^ 3 := Nat.pow_le_pow_right (by omega) (by omega)
    obtain ⟨s1, r1, r2, r3⟩ := r_btw hL ht hs (by omega) (48 : Int32) (57 : Int32)
    rw [fX5_readNumber_15_s, n_le (by omega) (by omega), if_neg (by omega), r1, gx_b_some]
    by_cases c : btw (t.2 0) L a 48 57 = true
    · obtain ⟨x, x1, x2, x3⟩ := btw_n (b := 48) (c := 57) (by decide) (by decide) c
      have e : dig (t.2 0) L (m + 1) a n = dig (t.2 0) L m (a + 1) (10 * n + (t.2 0 a).toNatClampNeg - 48) := if_pos c
      have hx : (t.2 0 a).toNatClampNeg = x := by rw [x3]; exact nI_clamp (by omega)
      have hle := (dig_le (T := t.2 0) (L := L) m (a + 1) (10 * n + x - 48)).1
      rw [if_pos c] at r2
      simp only [if_pos c]
      rw [e, hx, x3, if_neg (n_m1 (by omega)), show ((nI n * (10 : Int32)) + nI x) - (48 : Int32) = nI (10 * n + x - 48) from by
        rw [show (10 : Int32) = nI 10 from rfl, show (48 : Int32) = nI 48 from rfl, n_mul, nI_add, n_sub (by omega), Nat.mul_comm n 10], nI_1]
      obtain ⟨s', q1, q2, q3⟩ := ih (d + 1) (a + 1) (10 * n + x - 48) f s1 (by omega) (by omega) r2 (by omega) (by rw [Nat.pow_succ]; omega)
      rw [if_neg (fun q => Nat.succ_ne_zero _ q.1)] at q1
      rw [q1, if_neg (fun q => by have := q.2.2; omega)]
      exact ⟨s', rfl, q2, fun k hk => (q3 k hk).trans (r3 k hk)⟩
    · have e : dig (t.2 0) L (m + 1) a n = (a, n) := if_neg c
      rw [if_neg c] at r2
      simp only [if_neg c]
      rw [e, if_pos trivial]
      refine ⟨s1, ?_, r2, r3⟩
      by_cases c0 : d = 0
      · rw [if_pos (show nI d ≤ 0 from by rw [c0]; decide), if_pos ⟨c0, by omega, rfl⟩]
      · rw [if_neg (nI_nle (by omega) (by omega)), if_neg (fun q => c0 q.1)]
theorem r_num (hL : L ≤ 60) (ht : t.1 1 = nI L) {a most : Nat} (hmost : most ≤ 3) (h1 : 1 ≤ most) (hs : s.1 1 = nI a) (ha : a ≤ 90) : ∃ s', fX5_readNumber (s, t) (nI most) = some (if (num (t.2 0) L a most).1 = true then nI (num (t.2 0) L a most).2.2 else -1, (s', t)) ∧ s'.1 1 = nI (num (t.2 0) L a most).2.1 ∧ frS s s' := by
  obtain ⟨s1, r1, r2, r3⟩ := r_acc hL ht hs (by omega) (32 : Int32)
  unfold fX5_readNumber num
  rw [r1, gx_b_some]
  by_cases c : st (t.2 0) L a 32 = true
  · rw [if_pos c] at r2
    obtain ⟨s', q1, q2, q3⟩ := r_num15 hL ht hmost most 0 (a + 1) 0 2000 s1 (by omega) (by omega) r2 (by omega) (by decide)
    rw [c, show b1 true = 1 from rfl, if_neg one0, if_pos rfl, show fX5_readNumber_15 2000 (s1, t) (nI most) (0 : Int32) (0 : Int32) = _ from q1]
    refine ⟨s', ?_, ?_, fun k hk => (q3 k hk).trans (r3 k hk)⟩
    · by_cases c2 : (dig (t.2 0) L most (a + 1) 0).1 = a + 1
      · rw [if_pos ⟨rfl, by omega, c2⟩, if_pos c2]; rfl
      · rw [if_neg (fun q => c2 q.2.2), if_neg c2]; rfl
    · rw [q2]
      by_cases c2 : (dig (t.2 0) L most (a + 1) 0).1 = a + 1
      · rw [if_pos c2, c2]
      · rw [if_neg c2]
  · rw [if_neg c] at r2
    have cf : st (t.2 0) L a 32 = false := by cases h : st (t.2 0) L a 32 <;> simp_all
    rw [cf, show b1 false = 0 from rfl, if_pos rfl, if_neg (show ¬ (false = true) by decide)]
    exact ⟨s1, rfl, r2, r3⟩
end Cread
