/-! numbers of the floating kind: quotients of whole numbers are numbers; by program (wip/gen/pfp.py) -/
def okD (f : FP.Core.Fmt) : FP.Core.Datum → Prop
  | .nan => False
  | .inf _ => True
  | .fin _ c q => c < 2 * f.tails ∧ q ≤ f.qmax
theorem f_T_b32 : FP.Core.b32.tails = 8388608 := by decide +kernel
theorem f_X_b32 : FP.Core.b32.exps = 256 := by decide +kernel
theorem f_m_b32 : FP.Core.b32.qmin = -149 := by decide +kernel
theorem f_M_b32 : FP.Core.b32.qmax = 104 := by decide +kernel
theorem f_P_b32 : 2 ^ FP.Core.b32.p = 2 * 8388608 := by decide +kernel
theorem f_enc_b32 {d : FP.Core.Datum} (h : okD FP.Core.b32 d) : FP.Core.encode FP.Core.b32 d < 4294967296 ∧ FP.Core.encode FP.Core.b32 d % 2147483648 ≤ 2139095040 := by
  cases d with
  | nan => exact h.elim
  | inf s =>
    show FP.Core.assemble FP.Core.b32 s (FP.Core.b32.exps - 1) 0 < _ ∧ FP.Core.assemble FP.Core.b32 s (FP.Core.b32.exps - 1) 0 % _ ≤ _
    unfold FP.Core.assemble
    rw [f_X_b32, f_T_b32]
    cases s <;> decide +kernel
  | fin s c q =>
    obtain ⟨h1, h2⟩ := h
    rw [f_T_b32] at h1
    rw [f_M_b32] at h2
    have hs : s.toNat ≤ 1 := by cases s <;> decide
    show (if c < FP.Core.b32.tails then FP.Core.assemble FP.Core.b32 s 0 c else FP.Core.assemble FP.Core.b32 s ((q - FP.Core.b32.qmin).toNat + 1) (c - FP.Core.b32.tails)) < _ ∧ (if c < FP.Core.b32.tails then FP.Core.assemble FP.Core.b32 s 0 c else FP.Core.assemble FP.Core.b32 s ((q - FP.Core.b32.qmin).toNat + 1) (c - FP.Core.b32.tails)) % _ ≤ _
    unfold FP.Core.assemble
    rw [f_X_b32, f_T_b32, f_m_b32]
    by_cases hc : c < 8388608
    · rw [if_pos hc]
      omega
    · rw [if_neg hc]
      have hq : (q - (-149)).toNat ≤ 253 := by omega
      generalize (q - (-149)).toNat = z at hq
      omega
theorem f_bound_b32 (s : Bool) {c : Nat} {q : Int} (h : c < 2 * 8388608) : okD FP.Core.b32 (FP.Core.bound FP.Core.b32 s c q) := by
  unfold FP.Core.bound
  by_cases h2 : q ≤ FP.Core.b32.qmax
  · rw [if_pos h2]
    exact ⟨by rw [f_T_b32]; exact h, h2⟩
  · rw [if_neg h2]
    trivial
theorem f_round_b32 (s : Bool) (n d : Nat) (e : Int) : okD FP.Core.b32 (FP.Core.roundRatio FP.Core.b32 s n d e) := by
  unfold FP.Core.roundRatio
  by_cases h : n = 0
  · rw [if_pos h]
    exact ⟨by rw [f_T_b32]; decide, by rw [f_m_b32, f_M_b32]; decide⟩
  · rw [if_neg h]
    unfold FP.Core.roundAt FP.Core.settle
    rw [f_P_b32]
    by_cases h2 : FP.Core.nearest (FP.Core.unitsNum n e (FP.Core.quantum FP.Core.b32 n d e)) (FP.Core.unitsDen d e (FP.Core.quantum FP.Core.b32 n d e)) < 2 * 8388608
    · rw [if_pos h2]
      exact f_bound_b32 s h2
    · rw [if_neg h2]
      exact f_bound_b32 s (by rw [f_T_b32]; decide)
theorem f_bits_b32 {n : Nat} (h1 : n < 4294967296) (h2 : n % 2147483648 ≤ 2139095040) : (UInt32.ofNat n) &&& 0x7fffffff ≤ (0x7f800000 : UInt32) := by
  rw [UInt32.le_iff_toNat_le, UInt32.toNat_and, UInt32.toNat_ofNat_of_lt' h1]
  show n &&& 2147483647 ≤ 2139095040
  have e : n &&& 2147483647 = n % 2147483648 := Nat.and_two_pow_sub_one_eq_mod n 31
  rw [e]
  exact h2
/-- no datum of such bits is a NaN -/
theorem f_dec_b32 {n : Nat} (h1 : n < 4294967296) (h2 : n % 2147483648 ≤ 2139095040) : FP.Core.decode FP.Core.b32 n ≠ .nan := by
  unfold FP.Core.decode FP.Core.fieldE FP.Core.fieldT
  rw [f_X_b32, f_T_b32]
  by_cases c1 : n / 8388608 % 256 = 256 - 1
  · rw [if_pos c1, if_pos (by omega)]
    exact fun h => by cases h
  · rw [if_neg c1]
    by_cases c2 : n / 8388608 % 256 = 0
    · rw [if_pos c2]
      exact fun h => by cases h
    · rw [if_neg c2]
      exact fun h => by cases h
theorem f_T_b64 : FP.Core.b64.tails = 4503599627370496 := by decide +kernel
theorem f_X_b64 : FP.Core.b64.exps = 2048 := by decide +kernel
theorem f_m_b64 : FP.Core.b64.qmin = -1074 := by decide +kernel
theorem f_M_b64 : FP.Core.b64.qmax = 971 := by decide +kernel
theorem f_P_b64 : 2 ^ FP.Core.b64.p = 2 * 4503599627370496 := by decide +kernel
theorem f_enc_b64 {d : FP.Core.Datum} (h : okD FP.Core.b64 d) : FP.Core.encode FP.Core.b64 d < 18446744073709551616 ∧ FP.Core.encode FP.Core.b64 d % 9223372036854775808 ≤ 9218868437227405312 := by
  cases d with
  | nan => exact h.elim
  | inf s =>
    show FP.Core.assemble FP.Core.b64 s (FP.Core.b64.exps - 1) 0 < _ ∧ FP.Core.assemble FP.Core.b64 s (FP.Core.b64.exps - 1) 0 % _ ≤ _
    unfold FP.Core.assemble
    rw [f_X_b64, f_T_b64]
    cases s <;> decide +kernel
  | fin s c q =>
    obtain ⟨h1, h2⟩ := h
    rw [f_T_b64] at h1
    rw [f_M_b64] at h2
    have hs : s.toNat ≤ 1 := by cases s <;> decide
    show (if c < FP.Core.b64.tails then FP.Core.assemble FP.Core.b64 s 0 c else FP.Core.assemble FP.Core.b64 s ((q - FP.Core.b64.qmin).toNat + 1) (c - FP.Core.b64.tails)) < _ ∧ (if c < FP.Core.b64.tails then FP.Core.assemble FP.Core.b64 s 0 c else FP.Core.assemble FP.Core.b64 s ((q - FP.Core.b64.qmin).toNat + 1) (c - FP.Core.b64.tails)) % _ ≤ _
    unfold FP.Core.assemble
    rw [f_X_b64, f_T_b64, f_m_b64]
    by_cases hc : c < 4503599627370496
    · rw [if_pos hc]
      omega
    · rw [if_neg hc]
      have hq : (q - (-1074)).toNat ≤ 2045 := by omega
      generalize (q - (-1074)).toNat = z at hq
      omega
theorem f_bound_b64 (s : Bool) {c : Nat} {q : Int} (h : c < 2 * 4503599627370496) : okD FP.Core.b64 (FP.Core.bound FP.Core.b64 s c q) := by
  unfold FP.Core.bound
  by_cases h2 : q ≤ FP.Core.b64.qmax
  · rw [if_pos h2]
    exact ⟨by rw [f_T_b64]; exact h, h2⟩
  · rw [if_neg h2]
    trivial
theorem f_round_b64 (s : Bool) (n d : Nat) (e : Int) : okD FP.Core.b64 (FP.Core.roundRatio FP.Core.b64 s n d e) := by
  unfold FP.Core.roundRatio
  by_cases h : n = 0
  · rw [if_pos h]
    exact ⟨by rw [f_T_b64]; decide, by rw [f_m_b64, f_M_b64]; decide⟩
  · rw [if_neg h]
    unfold FP.Core.roundAt FP.Core.settle
    rw [f_P_b64]
    by_cases h2 : FP.Core.nearest (FP.Core.unitsNum n e (FP.Core.quantum FP.Core.b64 n d e)) (FP.Core.unitsDen d e (FP.Core.quantum FP.Core.b64 n d e)) < 2 * 4503599627370496
    · rw [if_pos h2]
      exact f_bound_b64 s h2
    · rw [if_neg h2]
      exact f_bound_b64 s (by rw [f_T_b64]; decide)
theorem f_bits_b64 {n : Nat} (h1 : n < 18446744073709551616) (h2 : n % 9223372036854775808 ≤ 9218868437227405312) : (UInt64.ofNat n) &&& 0x7fffffffffffffff ≤ (0x7ff0000000000000 : UInt64) := by
  rw [UInt64.le_iff_toNat_le, UInt64.toNat_and, UInt64.toNat_ofNat_of_lt' h1]
  show n &&& 9223372036854775807 ≤ 9218868437227405312
  have e : n &&& 9223372036854775807 = n % 9223372036854775808 := Nat.and_two_pow_sub_one_eq_mod n 63
  rw [e]
  exact h2
/-- no datum of such bits is a NaN -/
theorem f_dec_b64 {n : Nat} (h1 : n < 18446744073709551616) (h2 : n % 9223372036854775808 ≤ 9218868437227405312) : FP.Core.decode FP.Core.b64 n ≠ .nan := by
  unfold FP.Core.decode FP.Core.fieldE FP.Core.fieldT
  rw [f_X_b64, f_T_b64]
  by_cases c1 : n / 4503599627370496 % 2048 = 2048 - 1
  · rw [if_pos c1, if_pos (by omega)]
    exact fun h => by cases h
  · rw [if_neg c1]
    by_cases c2 : n / 4503599627370496 % 2048 = 0
    · rw [if_pos c2]
      exact fun h => by cases h
    · rw [if_neg c2]
      exact fun h => by cases h
theorem f_self (d : FP.Core.Datum) (h : d ≠ .nan) : FP.Core.order d d = some .eq := by
  cases d with
  | nan => exact absurd rfl h
  | inf s => cases s <;> rfl
  | fin s c q => simp [FP.Core.order, compare, compareOfLessAndEq]
/-- whole numbers of a range are numbers with a last digit, and only 0 is a zero -/
def f_ok32 (b : Nat) : Bool := match FP.Core.decode FP.Core.b32 (FP.Core.i2f (nI b)).toNat with
  | .fin _ d _ => b == 0 || d != 0
  | _ => false
def f_ok64 (b : Nat) : Bool := match FP.Core.decode FP.Core.b64 (FP.Core.i2d (nI b)).toNat with
  | .fin _ d _ => b == 0 || d != 0
  | _ => false
def f_all (f : Nat → Bool) (i : Nat) : Nat → Bool
  | 0 => true
  | k + 1 => f (i + k) && f_all f i k
theorem f_all_at (f : Nat → Bool) (i : Nat) : ∀ (k j : Nat), f_all f i k = true → j < k → f (i + j) = true := by
  intro k
  induction k with
  | zero => intro j _ h; exact absurd h (Nat.not_lt_zero _)
  | succ k ih =>
    intro j h hj
    simp only [f_all, Bool.and_eq_true] at h
    by_cases e : j = k
    · rw [e]; exact h.1
    · exact ih j h.2 (by omega)
theorem f_c0 : f_all f_ok32 0 1000 = true := by decide +kernel
theorem f_c1 : f_all f_ok32 1000 1000 = true := by decide +kernel
theorem f_c2 : f_all f_ok32 2000 1000 = true := by decide +kernel
theorem f_c3 : f_all f_ok32 3000 1000 = true := by decide +kernel
theorem f_c4 : f_all f_ok32 4000 1000 = true := by decide +kernel
theorem f_c5 : f_all f_ok32 5000 1000 = true := by decide +kernel
theorem f_c6 : f_all f_ok32 6000 1000 = true := by decide +kernel
theorem f_c7 : f_all f_ok32 7000 1000 = true := by decide +kernel
theorem f_c8 : f_all f_ok32 8000 1000 = true := by decide +kernel
theorem f_c9 : f_all f_ok32 9000 1000 = true := by decide +kernel
theorem f_c10 : f_all f_ok32 10000 1000 = true := by decide +kernel
theorem f_c11 : f_all f_ok32 11000 1000 = true := by decide +kernel
theorem f_c12 : f_all f_ok32 12000 1000 = true := by decide +kernel
theorem f_c13 : f_all f_ok32 13000 1000 = true := by decide +kernel
theorem f_c14 : f_all f_ok32 14000 1000 = true := by decide +kernel
theorem f_c15 : f_all f_ok32 15000 1000 = true := by decide +kernel
theorem f_c16 : f_all f_ok32 16000 1000 = true := by decide +kernel
theorem f_c17 : f_all f_ok32 17000 1000 = true := by decide +kernel
theorem f_c18 : f_all f_ok32 18000 1000 = true := by decide +kernel
theorem f_c19 : f_all f_ok32 19000 1000 = true := by decide +kernel
theorem f_c20 : f_all f_ok32 20000 1000 = true := by decide +kernel
theorem f_c21 : f_all f_ok32 21000 1000 = true := by decide +kernel
theorem f_c22 : f_all f_ok32 22000 1000 = true := by decide +kernel
theorem f_c23 : f_all f_ok32 23000 1000 = true := by decide +kernel
theorem f_c24 : f_all f_ok32 24000 1000 = true := by decide +kernel
theorem f_c25 : f_all f_ok32 25000 1000 = true := by decide +kernel
theorem f_c26 : f_all f_ok32 26000 1000 = true := by decide +kernel
theorem f_c27 : f_all f_ok32 27000 1000 = true := by decide +kernel
theorem f_c28 : f_all f_ok32 28000 1000 = true := by decide +kernel
theorem f_c29 : f_all f_ok32 29000 1000 = true := by decide +kernel
theorem f_c30 : f_all f_ok32 30000 1000 = true := by decide +kernel
theorem f_d0 : f_all f_ok64 0 1300 = true := by decide +kernel
theorem f_32 {b : Nat} (h : b < 31000) : f_ok32 b = true := by
  have hk : ∀ a, f_all f_ok32 a 1000 = true → a ≤ b → b < a + 1000 → f_ok32 b = true := fun a ha h1 h2 => by
    have := f_all_at f_ok32 a 1000 (b - a) ha (by omega)
    rwa [show a + (b - a) = b by omega] at this
  by_cases q0 : b < 1000
  · exact hk 0 f_c0 (by omega) (by omega)
  by_cases q1 : b < 2000
  · exact hk 1000 f_c1 (by omega) (by omega)
  by_cases q2 : b < 3000
  · exact hk 2000 f_c2 (by omega) (by omega)
  by_cases q3 : b < 4000
  · exact hk 3000 f_c3 (by omega) (by omega)
  by_cases q4 : b < 5000
  · exact hk 4000 f_c4 (by omega) (by omega)
  by_cases q5 : b < 6000
  · exact hk 5000 f_c5 (by omega) (by omega)
  by_cases q6 : b < 7000
  · exact hk 6000 f_c6 (by omega) (by omega)
  by_cases q7 : b < 8000
  · exact hk 7000 f_c7 (by omega) (by omega)
  by_cases q8 : b < 9000
  · exact hk 8000 f_c8 (by omega) (by omega)
  by_cases q9 : b < 10000
  · exact hk 9000 f_c9 (by omega) (by omega)
  by_cases q10 : b < 11000
  · exact hk 10000 f_c10 (by omega) (by omega)
  by_cases q11 : b < 12000
  · exact hk 11000 f_c11 (by omega) (by omega)
  by_cases q12 : b < 13000
  · exact hk 12000 f_c12 (by omega) (by omega)
  by_cases q13 : b < 14000
  · exact hk 13000 f_c13 (by omega) (by omega)
  by_cases q14 : b < 15000
  · exact hk 14000 f_c14 (by omega) (by omega)
  by_cases q15 : b < 16000
  · exact hk 15000 f_c15 (by omega) (by omega)
  by_cases q16 : b < 17000
  · exact hk 16000 f_c16 (by omega) (by omega)
  by_cases q17 : b < 18000
  · exact hk 17000 f_c17 (by omega) (by omega)
  by_cases q18 : b < 19000
  · exact hk 18000 f_c18 (by omega) (by omega)
  by_cases q19 : b < 20000
  · exact hk 19000 f_c19 (by omega) (by omega)
  by_cases q20 : b < 21000
  · exact hk 20000 f_c20 (by omega) (by omega)
  by_cases q21 : b < 22000
  · exact hk 21000 f_c21 (by omega) (by omega)
  by_cases q22 : b < 23000
  · exact hk 22000 f_c22 (by omega) (by omega)
  by_cases q23 : b < 24000
  · exact hk 23000 f_c23 (by omega) (by omega)
  by_cases q24 : b < 25000
  · exact hk 24000 f_c24 (by omega) (by omega)
  by_cases q25 : b < 26000
  · exact hk 25000 f_c25 (by omega) (by omega)
  by_cases q26 : b < 27000
  · exact hk 26000 f_c26 (by omega) (by omega)
  by_cases q27 : b < 28000
  · exact hk 27000 f_c27 (by omega) (by omega)
  by_cases q28 : b < 29000
  · exact hk 28000 f_c28 (by omega) (by omega)
  by_cases q29 : b < 30000
  · exact hk 29000 f_c29 (by omega) (by omega)
  by_cases q30 : b < 31000
  · exact hk 30000 f_c30 (by omega) (by omega)
  omega
theorem f_64 {b : Nat} (h : b < 1300) : f_ok64 b = true := by
  have := f_all_at f_ok64 0 1300 b f_d0 h
  rwa [Nat.zero_add] at this
theorem f_quo32 {a b : Nat} (ha : a < 31000) (hb : b < 31000) (h0 : b ≠ 0) : okD FP.Core.b32 (FP.Core.quotient FP.Core.b32 (FP.Core.decode FP.Core.b32 (FP.Core.i2f (nI a)).toNat) (FP.Core.decode FP.Core.b32 (FP.Core.i2f (nI b)).toNat)) := by
  have h1 := f_32 ha
  have h2 := f_32 hb
  unfold f_ok32 at h1 h2
  cases e1 : FP.Core.decode FP.Core.b32 (FP.Core.i2f (nI a)).toNat with
  | nan => rw [e1] at h1; cases h1
  | inf s => rw [e1] at h1; cases h1
  | fin s c q =>
    cases e2 : FP.Core.decode FP.Core.b32 (FP.Core.i2f (nI b)).toNat with
    | nan => rw [e2] at h2; cases h2
    | inf s => rw [e2] at h2; cases h2
    | fin t d r =>
      rw [e2] at h2
      have hd : d ≠ 0 := by
        intro hd
        simp [hd, h0] at h2
      simp only [FP.Core.quotient, if_neg hd]
      exact f_round_b32 _ _ _ _
theorem f_quo64 {a b : Nat} (ha : a < 1300) (hb : b < 1300) (h0 : b ≠ 0) : okD FP.Core.b64 (FP.Core.quotient FP.Core.b64 (FP.Core.decode FP.Core.b64 (FP.Core.i2d (nI a)).toNat) (FP.Core.decode FP.Core.b64 (FP.Core.i2d (nI b)).toNat)) := by
  have h1 := f_64 ha
  have h2 := f_64 hb
  unfold f_ok64 at h1 h2
  cases e1 : FP.Core.decode FP.Core.b64 (FP.Core.i2d (nI a)).toNat with
  | nan => rw [e1] at h1; cases h1
  | inf s => rw [e1] at h1; cases h1
  | fin s c q =>
    cases e2 : FP.Core.decode FP.Core.b64 (FP.Core.i2d (nI b)).toNat with
    | nan => rw [e2] at h2; cases h2
    | inf s => rw [e2] at h2; cases h2
    | fin t d r =>
      rw [e2] at h2
      have hd : d ≠ 0 := by
        intro hd
        simp [hd, h0] at h2
      simp only [FP.Core.quotient, if_neg hd]
      exact f_round_b64 _ _ _ _
theorem f_ddiv {a b : Nat} (ha : a < 1300) (hb : b < 1300) (h0 : b ≠ 0) : FP.ddiv (FP.i2d (nI a)) (FP.i2d (nI b)) &&& 0x7fffffffffffffff ≤ 0x7ff0000000000000 := by
  obtain ⟨h1, h2⟩ := f_enc_b64 (f_quo64 ha hb h0)
  exact f_bits_b64 h1 h2
theorem f_fdiv {a b : Nat} (ha : a < 31000) (hb : b < 31000) (h0 : b ≠ 0) : FP.fdiv (FP.i2f (nI a)) (FP.i2f (nI b)) &&& 0x7fffffff ≤ 0x7f800000 := by
  obtain ⟨h1, h2⟩ := f_enc_b32 (f_quo32 ha hb h0)
  exact f_bits_b32 h1 h2
theorem f_f2d {a b : Nat} (ha : a < 31000) (hb : b < 31000) (h0 : b ≠ 0) : FP.f2d (FP.fdiv (FP.i2f (nI a)) (FP.i2f (nI b))) &&& 0x7fffffffffffffff ≤ 0x7ff0000000000000 ∧ Op.cmpValue (FP.dcmp (FP.f2d (FP.fdiv (FP.i2f (nI a)) (FP.i2f (nI b)))) (FP.f2d (FP.fdiv (FP.i2f (nI a)) (FP.i2f (nI b))))) .l = 0 := by
  obtain ⟨h1, h2⟩ := f_enc_b32 (f_quo32 ha hb h0)
  have hn : (FP.fdiv (FP.i2f (nI a)) (FP.i2f (nI b))).toNat = FP.Core.encode FP.Core.b32 (FP.Core.quotient FP.Core.b32 (FP.Core.decode FP.Core.b32 (FP.Core.i2f (nI a)).toNat) (FP.Core.decode FP.Core.b32 (FP.Core.i2f (nI b)).toNat)) := UInt32.toNat_ofNat_of_lt' h1
  have hd := f_dec_b32 h1 h2
  rw [← hn] at hd
  have hr : okD FP.Core.b64 (FP.Core.round FP.Core.b64 (FP.Core.decode FP.Core.b32 (FP.fdiv (FP.i2f (nI a)) (FP.i2f (nI b))).toNat)) := by
    cases e : FP.Core.decode FP.Core.b32 (FP.fdiv (FP.i2f (nI a)) (FP.i2f (nI b))).toNat with
    | nan => exact absurd e hd
    | inf s => trivial
    | fin s c q => exact f_round_b64 _ _ _ _
  obtain ⟨k1, k2⟩ := f_enc_b64 hr
  have hf : FP.f2d (FP.fdiv (FP.i2f (nI a)) (FP.i2f (nI b))) = UInt64.ofNat (FP.Core.encode FP.Core.b64 (FP.Core.round FP.Core.b64 (FP.Core.decode FP.Core.b32 (FP.fdiv (FP.i2f (nI a)) (FP.i2f (nI b))).toNat))) := by
    unfold FP.f2d
    have hx : FP.Core.fIsNaN (FP.fdiv (FP.i2f (nI a)) (FP.i2f (nI b))) = false := decide_eq_false hd
    rw [hx]
    rfl
  rw [hf]
  refine ⟨f_bits_b64 k1 k2, ?_⟩
  have hc : FP.dcmp (UInt64.ofNat (FP.Core.encode FP.Core.b64 (FP.Core.round FP.Core.b64 (FP.Core.decode FP.Core.b32 (FP.fdiv (FP.i2f (nI a)) (FP.i2f (nI b))).toNat)))) (UInt64.ofNat (FP.Core.encode FP.Core.b64 (FP.Core.round FP.Core.b64 (FP.Core.decode FP.Core.b32 (FP.fdiv (FP.i2f (nI a)) (FP.i2f (nI b))).toNat)))) = some .eq := by
    refine f_self _ ?_
    rw [UInt64.toNat_ofNat_of_lt' k1]
    exact f_dec_b64 k1 k2
  rw [hc]
  rfl
