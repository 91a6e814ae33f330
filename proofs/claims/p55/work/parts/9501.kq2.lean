/-! the class alone: flags, means, consistency -/
section Q8
variable {V : AN} {k : CS} {c w : Nat} {σ : OS}
theorem c_cons2 (hw : wO V 0) (hc : zN V w k.1) : ∀ (d i n : Nat), i + d = 12 → d < n → fX8_isConsistent_2 k n (nI i) = some 1 := by
  intro d
  induction d with
  | zero =>
    intro i n hi hn
    obtain ⟨m, rfl⟩ : ∃ m, n = m + 1 := ⟨n - 1, by omega⟩
    rw [fX8_isConsistent_2, if_pos (show (12 : Int32) ≤ nI i from (nI_leI (a := 12) (by decide) (by omega)).mpr (by omega))]
  | succ d ih =>
    intro i n hi hn
    obtain ⟨m, rfl⟩ : ∃ m, n = m + 1 := ⟨n - 1, by omega⟩
    rw [fX8_isConsistent_2, if_neg (show ¬ (12 : Int32) ≤ nI i from fun q => by have := (nI_leI (a := 12) (by decide) (by omega)).mp q; omega), nI_1, ih (i + 1) m (by omega) (by omega)]
    cases e : hv V.1.2.2.2.2 i with
    | true => rw [c_serves_t hw.1 hc.1 e, gx_b_some, if_neg one0, c_ways hw.1 hc.1 e, gx_b_some, if_neg one0]
    | false =>
      rw [c_serves_f hw.1 hc.1 (fun ⟨o, h1, h2⟩ => by
        have ho := hv_lt hw.1 h2
        have hA := hw.1.2.1
        rw [(nI_eq (by omega) (by omega)).mp h1, h2] at e
        cases e), gx_b_some, if_pos rfl]
theorem q_flagsWith (h : kq V k) {v : Nat} (hv9 : v ≤ 99) : fL_flagsWith k (nI v) = some (nI (V.2.2.1.countP (fun e => decide (e.2 = v))), k) := by
  obtain ⟨⟨w, hwl, hc⟩, hw⟩ := h
  have hB := hw.2.2.2.2.2.2
  have hB20 := hB.1
  obtain ⟨C, hp, gl, ga⟩ := hc.2.2.1
  have n3 : ¬ nI v < 0 := nI_pos (by omega)
  have n4 : nI v ≤ (99 : Int32) := (nI_leI (b := 99) (by omega) (by decide)).mpr hv9
  unfold fL_flagsWith fX8_flagsWith
  rw [if_neg n3, if_pos n4, c_cm (wB_perm hp hB) gl ga (by omega), gx_b_some, hp.countP_eq]
  rfl
theorem q_isConsistent (h : kq V k) : fX8_isConsistent k = some 1 := by
  obtain ⟨⟨w, hwl, hc⟩, hw⟩ := h
  exact c_cons2 hw hc 12 0 2000 (by omega) (by omega)
def mval (V : AN) (a b : Nat) : Int32 := match V.2.2.1.find? (fun e => decide (e.1 = 26 * a + b)) with
  | none => -75
  | some e => nI e.2
theorem q_meaning (h : kq V k) {a b : Nat} (a1 : 97 ≤ a) (a2 : a ≤ 122) (b1 : 97 ≤ b) (b2 : b ≤ 122) : fL_meaning k (nI a) (nI b) = some (mval V a b, k) := by
  obtain ⟨⟨w, hwl, hc⟩, hw⟩ := h
  have hB := hw.2.2.2.2.2.2
  have hB20 := hB.1
  obtain ⟨C, hp, gl, ga⟩ := hc.2.2.1
  have hlen := hp.length_eq
  unfold fL_meaning fX8_meaning xX8_meaning fX0_lookUp mval
  rw [isL_t ⟨a, a1, a2, rfl⟩, gx_b_some, if_neg one0, isL_t ⟨b, b1, b2, rfl⟩, gx_b_some, if_neg one0]
  rcases c_find (wB_perm hp hB) gl ga a1 a2 b1 b2 with ⟨i, e, q1, q2, q3⟩ | ⟨q1, q2⟩
  · have he : e ∈ V.2.2.1 := hp.mem_iff.mp (List.mem_of_getElem? q1)
    obtain ⟨y1, y2, y3⟩ := hB.2.2 e he
    have hi := get_lt q1
    cases hf : V.2.2.1.find? (fun e => decide (e.1 = 26 * a + b)) with
    | none =>
      have := List.find?_eq_none.mp hf e he
      exact absurd (decide_eq_true q2) this
    | some e' =>
      have h1 := List.find?_some hf
      have h2 := List.mem_of_find?_eq_some hf
      have he2 : e' = e := key_one hB h2 he ((of_decide_eq_true h1).trans q2.symm)
      subst he2
      rw [q3, gx_b_some, if_neg (n_m1 (by omega)), gx_chk_t (nI_in (by omega) (by decide)), nI_clamp (by omega), show os_a k.1.2.2.2 1 i = nI e'.2 from (ga i e' q1).2, gx_b_some, if_pos (nI_pos' (by omega))]
      rfl
  · cases hf : V.2.2.1.find? (fun e => decide (e.1 = 26 * a + b)) with
    | none =>
      rw [q2, gx_b_some, if_pos rfl, gx_b_some, if_neg (show ¬ (0 : Int32) ≤ -5 by decide), or_none, gx_b_some, if_neg (show ¬ (0 : Int32) ≤ -5 by decide), x_throw]
      rfl
    | some e' =>
      have h1 := List.find?_some hf
      have h2 := List.mem_of_find?_eq_some hf
      exact absurd (of_decide_eq_true h1) (q1 e' (hp.mem_iff.mpr h2))
def cntV (V : AN) : Nat := sr (fun o => i1 (hv V.1.2.2.2.2 o = true)) 0 V.1.1
theorem cnt_in (hw : wO V 0) : 1 ≤ cntV V ∧ cntV V ≤ 12 := by
  unfold cntV
  have h1 : 1 ≤ sr (fun o => i1 (hv V.1.2.2.2.2 o = true)) 0 V.1.1 := by
    obtain ⟨m, hm⟩ : ∃ m, V.1.1 = m + 1 := ⟨V.1.1 - 1, by have := hw.1.1; omega⟩
    rw [hm]
    simp only [sr]
    rw [i1_t (hv_0 _)]
    omega
  have h2 : sr (fun o => i1 (hv V.1.2.2.2.2 o = true)) 0 V.1.1 ≤ 1 * V.1.1 := by
    have := sr_le (f := fun o => i1 (hv V.1.2.2.2.2 o = true)) (g := fun _ => 1) V.1.1 0 (fun j _ _ => by simp only [i1]; split <;> omega)
    rw [sr_k] at this
    exact this
  have := hw.1.2.1
  omega
def sumV (V : AN) : Nat := sr (lo9 V.1.2.2.1 V.1.2.2.2.2) 0 V.1.1
theorem sum_in (hw : wO V 0) : sumV V ≤ 1200 := by
  unfold sumV
  have h3 : sr (lo9 V.1.2.2.1 V.1.2.2.2.2) 0 V.1.1 ≤ 100 * V.1.1 := by
    have := sr_le (f := lo9 V.1.2.2.1 V.1.2.2.2.2) (g := fun _ => 100) V.1.1 0 (fun j _ hj => by
      unfold lo9
      split
      · exact (hw.2.1 j (by omega)).1
      · omega)
    rw [sr_k] at this
    exact this
  have := hw.1.2.1
  omega
theorem q_meanLoyalty (h : kq V k) : fX8_meanLoyalty k = some (FP.ddiv (FP.i2d (nI (sumV V))) (FP.i2d (nI (cntV V)))) := by
  obtain ⟨⟨w, hwl, hc⟩, hw⟩ := h
  obtain ⟨n1, n2⟩ := cnt_in hw
  have n3 := sum_in hw
  have hf := f_ddiv (a := sumV V) (b := cntV V) (by omega) (by omega) (by omega)
  unfold fX8_meanLoyalty
  rw [c_cserv hw.1 hc.1, gx_b_some, if_neg (nI_nle (by unfold cntV at n1; omega) (by unfold cntV at n2; omega)), c_sum hw.1 hc.1, gx_b_some]
  exact gx_chk_t hf
/-- what executedShare answers -/
def shV (V : AN) : UInt32 := if V.2.2.2.2.1 + V.2.2.2.2.2.1 + V.2.2.2.2.2.2 = 0 then 3264479232 else FP.fdiv (FP.i2f (nI V.2.2.2.2.1)) (FP.i2f (nI (V.2.2.2.2.1 + V.2.2.2.2.2.1 + V.2.2.2.2.2.2)))
theorem q_executedShare (h : kq V k) (ht : tot V ≤ 60) : fL_executedShare k = some (shV V, k) := by
  obtain ⟨⟨w, hwl, hc⟩, hw⟩ := h
  unfold tot at ht
  unfold fL_executedShare fX8_executedShare xX8_executedShare shV
  simp only [show os_f k.1.1 4 = nI V.2.2.2.2.1 from hc.2.2.2.2.1, show os_f k.1.1 5 = nI V.2.2.2.2.2.1 from hc.2.2.2.2.2.1, show os_f k.1.1 6 = nI V.2.2.2.2.2.2 from hc.2.2.2.2.2.2, nI_add]
  by_cases c0 : V.2.2.2.2.1 + V.2.2.2.2.2.1 + V.2.2.2.2.2.2 = 0
  · rw [if_pos c0, c0, if_neg (show ¬ (0 : Int32) < nI 0 by decide), if_neg (show ¬ (0 : Int32) < nI 0 by decide)]
    rfl
  · have hf := f_fdiv (a := V.2.2.2.2.1) (b := V.2.2.2.2.1 + V.2.2.2.2.2.1 + V.2.2.2.2.2.2) (by omega) (by omega) c0
    have hp : (0 : Int32) < nI (V.2.2.2.2.1 + V.2.2.2.2.2.1 + V.2.2.2.2.2.2) := (nI_ltI (a := 0) (by decide) (by omega)).mpr (by omega)
    rw [if_neg c0, if_pos hp, gx_chk_t hf]
    rfl
theorem f_deq {a b : Nat} (ha : a < 1300) (hb : b < 1300) (h0 : b ≠ 0) : Op.cmpValue (FP.dcmp (FP.ddiv (FP.i2d (nI a)) (FP.i2d (nI b))) (FP.ddiv (FP.i2d (nI a)) (FP.i2d (nI b)))) .l = 0 := by
  obtain ⟨h1, h2⟩ := f_enc_b64 (f_quo64 ha hb h0)
  have hn : (FP.ddiv (FP.i2d (nI a)) (FP.i2d (nI b))).toNat = FP.Core.encode FP.Core.b64 (FP.Core.quotient FP.Core.b64 (FP.Core.decode FP.Core.b64 (FP.Core.i2d (nI a)).toNat) (FP.Core.decode FP.Core.b64 (FP.Core.i2d (nI b)).toNat)) := UInt64.toNat_ofNat_of_lt' h1
  have hd := f_dec_b64 h1 h2
  rw [← hn] at hd
  have hc : FP.dcmp (FP.ddiv (FP.i2d (nI a)) (FP.i2d (nI b))) (FP.ddiv (FP.i2d (nI a)) (FP.i2d (nI b))) = some .eq := f_self _ hd
  rw [hc]
  rfl
theorem f_feq {a b : Nat} (ha : a < 31000) (hb : b < 31000) (h0 : b ≠ 0) : Op.cmpValue (FP.fcmp (FP.fdiv (FP.i2f (nI a)) (FP.i2f (nI b))) (FP.fdiv (FP.i2f (nI a)) (FP.i2f (nI b)))) .l = 0 := by
  obtain ⟨h1, h2⟩ := f_enc_b32 (f_quo32 ha hb h0)
  have hn : (FP.fdiv (FP.i2f (nI a)) (FP.i2f (nI b))).toNat = FP.Core.encode FP.Core.b32 (FP.Core.quotient FP.Core.b32 (FP.Core.decode FP.Core.b32 (FP.Core.i2f (nI a)).toNat) (FP.Core.decode FP.Core.b32 (FP.Core.i2f (nI b)).toNat)) := UInt32.toNat_ofNat_of_lt' h1
  have hd := f_dec_b32 h1 h2
  rw [← hn] at hd
  have hc : FP.fcmp (FP.fdiv (FP.i2f (nI a)) (FP.i2f (nI b))) (FP.fdiv (FP.i2f (nI a)) (FP.i2f (nI b))) = some .eq := f_self _ hd
  rw [hc]
  rfl
theorem f_74 : Op.cmpValue (FP.fcmp (3264479232 : UInt32) (3264479232 : UInt32)) .l = 0 := by decide +kernel
end Q8
