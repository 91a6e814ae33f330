/-! the sum of a state; undo, save, restore; all is kept -/
section Uni
variable {V : AN}
theorem u_rank (p : Int32) : ∃ r, ∀ k, kq V k → fL_rank k p = some (r, k) := by
  by_cases c : ∃ o, p = nI o ∧ hv V.1.2.2.2.2 o = true
  · obtain ⟨o, rfl, ho⟩ := c
    exact ⟨_, fun k h => q_rank_t h ho⟩
  · exact ⟨_, fun k h => q_rank_f h c⟩
theorem u_loyalty (p : Int32) : ∃ r, ∀ k, kq V k → fL_loyalty k p = some (r, k) := by
  by_cases c : ∃ o, p = nI o ∧ hv V.1.2.2.2.2 o = true
  · obtain ⟨o, rfl, ho⟩ := c
    exact ⟨_, fun k h => q_loyalty_t h ho⟩
  · exact ⟨_, fun k h => q_loyalty_f h c⟩
theorem u_refusals (p : Int32) : ∃ r, ∀ k, kq V k → fL_refusals k p = some (r, k) := by
  by_cases c : ∃ o, p = nI o ∧ hv V.1.2.2.2.2 o = true
  · obtain ⟨o, rfl, ho⟩ := c
    exact ⟨_, fun k h => q_refusals_t h ho⟩
  · exact ⟨_, fun k h => q_refusals_f h c⟩
theorem u_superior (p : Int32) : ∃ r, ∀ k, kq V k → fL_superior k p = some (r, k) := by
  by_cases c : ∃ o, p = nI o ∧ hv V.1.2.2.2.2 o = true
  · obtain ⟨o, rfl, ho⟩ := c
    by_cases c0 : o = 0
    · rw [c0]
      exact ⟨_, fun k h => q_superior_0 h⟩
    · exact ⟨_, fun k h => q_superior_t h ho c0⟩
  · exact ⟨_, fun k h => q_superior_f h c⟩
theorem u_commandSize (p : Int32) : ∃ r, ∀ k, kq V k → fL_commandSize k p = some (r, k) := by
  by_cases c : ∃ o, p = nI o ∧ hv V.1.2.2.2.2 o = true
  · obtain ⟨o, rfl, ho⟩ := c
    exact ⟨_, fun k h => q_commandSize_t h ho⟩
  · exact ⟨_, fun k h => q_commandSize_f h c⟩
theorem u_subordinates (p : Int32) : ∃ r, ∀ k, kq V k → fL_subordinates k p = some (r, k) := by
  by_cases c : ∃ o, p = nI o ∧ hv V.1.2.2.2.2 o = true
  · obtain ⟨o, rfl, ho⟩ := c
    exact ⟨_, fun k h => q_subordinates_t h ho⟩
  · exact ⟨_, fun k h => q_subordinates_f h c⟩
theorem w_let : ∀ i, i < 25 → ((((97 : Int32) + (nI i / (5 : Int32))).toUInt32 % 65536).toInt32 = nI (97 + i / 5)) ∧ ((((97 : Int32) + (nI i - nI i / (5 : Int32) * (5 : Int32))).toUInt32 % 65536).toInt32 = nI (97 + i % 5)) := by decide
variable (aa : gx_AA)
theorem u_178 (hw : wO V 0) : ∀ (d i n κ : Nat) (v : Int64), i + d = 25 → d < n → κ + d ≤ 200 → ∃ v' κ', ∀ k, kq V k → fL_sum_178 aa n (k, κ) v (nI i) = some (v', (k, κ')) := by
  intro d
  induction d with
  | zero =>
    intro i n κ v hi hn hκ
    obtain ⟨m, rfl⟩ : ∃ m, n = m + 1 := ⟨n - 1, by omega⟩
    have e : i = 25 := hi
    refine ⟨v + (31 : Int64) * (nI V.1.1).toInt64, κ, fun k h => ?_⟩
    have hκ2 : κ ≤ 200 := hκ
    rw [fL_sum_178_s, e, if_pos (show (25 : Int32) ≤ nI 25 by decide)]
    dsimp only
    rw [gx_chk_t hκ2, q_appointedCount h, gx_b_some, gx_chk_t hκ2]
  | succ d ih =>
    intro i n κ v hi hn hκ
    obtain ⟨m, rfl⟩ : ∃ m, n = m + 1 := ⟨n - 1, by omega⟩
    obtain ⟨l1, l2⟩ := w_let i (by omega)
    obtain ⟨v', κ', hx⟩ := ih (i + 1) m (κ + 1) ((31 : Int64) * v + (mval V (97 + i / 5) (97 + i % 5)).toInt64) (by omega) (by omega) (by omega)
    refine ⟨v', κ', fun k h => ?_⟩
    rw [fL_sum_178_s, if_neg (show ¬ (25 : Int32) ≤ nI i from nI_ge (b := 25) (by omega) (by decide)), gx_chk_t (by show κ + 1 ≤ 200; omega), l1, l2, show fL_meaning (k, κ).1 (nI (97 + i / 5)) (nI (97 + i % 5)) = _ from q_meaning h (by omega) (by omega) (by omega) (by omega), gx_b_some, nI_1]
    exact hx k h
theorem u_151 (hw : wO V 0) : ∀ (d i n κ : Nat) (v : Int64), i + d = 100 → d < n → κ + d + 25 ≤ 200 → ∃ v' κ', ∀ k, kq V k → fL_sum_151 aa n (k, κ) v (nI i) = some (v', (k, κ')) := by
  intro d
  induction d with
  | zero =>
    intro i n κ v hi hn hκ
    obtain ⟨m, rfl⟩ : ∃ m, n = m + 1 := ⟨n - 1, by omega⟩
    have e : i = 100 := hi
    obtain ⟨v', κ', hx⟩ := u_178 aa hw 25 0 2000 κ v (by omega) (by omega) (by omega)
    refine ⟨v', κ', fun k h => ?_⟩
    rw [fL_sum_151_s, e, if_pos (show (100 : Int32) ≤ nI 100 by decide)]
    exact hx k h
  | succ d ih =>
    intro i n κ v hi hn hκ
    obtain ⟨m, rfl⟩ : ∃ m, n = m + 1 := ⟨n - 1, by omega⟩
    obtain ⟨v', κ', hx⟩ := ih (i + 1) m (κ + 1) ((31 : Int64) * v + (nI (V.2.2.1.countP (fun e => decide (e.2 = i)))).toInt64) (by omega) (by omega) (by omega)
    refine ⟨v', κ', fun k h => ?_⟩
    rw [fL_sum_151_s, if_neg (show ¬ (100 : Int32) ≤ nI i from nI_ge (b := 100) (by omega) (by decide)), gx_chk_t (by show κ + 1 ≤ 200; omega), show fL_flagsWith (k, κ).1 (nI i) = _ from q_flagsWith h (by omega), gx_b_some, nI_1]
    exact hx k h
theorem u_100 (hw : wO V 0) : ∀ (d i n κ : Nat) (v : Int64), i + d = V.2.1.length → d < n → κ + 3 * d + 125 ≤ 200 → ∃ v' κ', ∀ k, kq V k → fL_sum_100 aa n (k, κ) v (nI i) = some (v', (k, κ')) := by
  have hK := hw.2.2.2.1
  intro d
  induction d with
  | zero =>
    intro i n κ v hi hn hκ
    obtain ⟨m, rfl⟩ : ∃ m, n = m + 1 := ⟨n - 1, by omega⟩
    obtain ⟨v', κ', hx⟩ := u_151 aa hw 100 0 2000 κ v (by omega) (by omega) (by omega)
    refine ⟨v', κ', fun k h => ?_⟩
    rw [fL_sum_100_s, gx_chk_t (by show κ ≤ 200; omega), show fX8_orderCount (k, κ).1 = _ from q_orderCount h, gx_b_some, n_le (by omega) (by omega), if_pos (by omega)]
    exact hx k h
  | succ d ih =>
    intro i n κ v hi hn hκ
    obtain ⟨m, rfl⟩ : ∃ m, n = m + 1 := ⟨n - 1, by omega⟩
    obtain ⟨e, he⟩ := lt_get (K := V.2.1) (k := i) (by omega)
    obtain ⟨v', κ', hx⟩ := ih (i + 1) m (κ + 1 + 1 + 1) ((31 : Int64) * v + (1009 : Int64) * (nI e.1).toInt64 + (101 : Int64) * (nI e.2.1).toInt64 + (nI e.2.2).toInt64) (by omega) (by omega) (by omega)
    refine ⟨v', κ', fun k h => ?_⟩
    rw [fL_sum_100_s]
    dsimp only
    rw [gx_chk_t (by omega), q_orderCount h, gx_b_some, n_le (by omega) (by omega), if_neg (by omega), gx_chk_t (by omega), q_holder_t h he, gx_b_some]
    dsimp only
    rw [gx_chk_t (by omega), q_target_t h he, gx_b_some]
    dsimp only
    rw [gx_chk_t (by omega), q_severity_t h he, gx_b_some, nI_1]
    exact hx k h
theorem u_38 (hw : wO V 0) : ∀ (d i n κ : Nat) (v : Int64), i + d = V.1.1 → d < n → κ + 4 * d + 143 ≤ 200 → ∃ v' κ', ∀ k, kq V k → fL_sum_38 aa n (k, κ) v (nI i) = some (v', (k, κ')) := by
  have hA := hw.1.2.1
  have hK := hw.2.2.2.1
  intro d
  induction d with
  | zero =>
    intro i n κ v hi hn hκ
    obtain ⟨m, rfl⟩ : ∃ m, n = m + 1 := ⟨n - 1, by omega⟩
    obtain ⟨v', κ', hx⟩ := u_100 aa hw V.2.1.length 0 2000 κ v (by omega) (by omega) (by omega)
    refine ⟨v', κ', fun k h => ?_⟩
    rw [fL_sum_38_s, gx_chk_t (by show κ ≤ 200; omega), show fX8_appointedCount (k, κ).1 = _ from q_appointedCount h, gx_b_some, n_le (by omega) (by omega), if_pos (by omega)]
    exact hx k h
  | succ d ih =>
    intro i n κ v hi hn hκ
    obtain ⟨m, rfl⟩ : ∃ m, n = m + 1 := ⟨n - 1, by omega⟩
    obtain ⟨a1, h1⟩ := u_rank (V := V) (nI i)
    obtain ⟨a2, h2⟩ := u_loyalty (V := V) (nI i)
    obtain ⟨a3, h3⟩ := u_refusals (V := V) (nI i)
    obtain ⟨a4, h4⟩ := u_superior (V := V) (nI i)
    obtain ⟨v', κ', hx⟩ := ih (i + 1) m (κ + 1 + 1 + 1 + 1) ((31 : Int64) * v + (1009 : Int64) * a1.toInt64 + (101 : Int64) * a2.toInt64 + (31 : Int64) * a3.toInt64 + a4.toInt64) (by omega) (by omega) (by omega)
    refine ⟨v', κ', fun k h => ?_⟩
    rw [fL_sum_38_s]
    dsimp only
    rw [gx_chk_t (by omega), q_appointedCount h, gx_b_some, n_le (by omega) (by omega), if_neg (by omega), gx_chk_t (by omega), h1 k h, gx_b_some]
    dsimp only
    rw [gx_chk_t (by omega), h2 k h, gx_b_some]
    dsimp only
    rw [gx_chk_t (by omega), h3 k h, gx_b_some]
    dsimp only
    rw [gx_chk_t (by omega), h4 k h, gx_b_some, nI_1]
    exact hx k h
/-- the sum of a state -/
def SVp (V : AN) (v : Int64) : Prop := ∃ κ, ∀ k, kq V k → fL_sum aa k = some (v, (k, κ))
theorem sv_ex (hw : wO V 0) : ∃ v, SVp (V := V) aa v := by
  have hA := hw.1.2.1
  obtain ⟨v', κ', hx⟩ := u_38 aa hw V.1.1 0 2000 0 ((1009 : Int64) * V.2.2.2.1.toInt64 + (101 : Int64) * (nI V.2.2.2.2.1).toInt64 + (31 : Int64) * (nI V.2.2.2.2.2.1).toInt64 + (nI V.2.2.2.2.2.2).toInt64) (by omega) (by omega) (by omega)
  refine ⟨v', κ', fun k h => ?_⟩
  unfold fL_sum
  rw [gx_chk_t (by decide), q_hour h, gx_b_some, gx_chk_t (by decide), q_executedOrders h, gx_b_some, gx_chk_t (by decide), q_refusedOrders h, gx_b_some, gx_chk_t (by decide), q_lostOrders h, gx_b_some]
  exact hx k h
end Uni
/-! undo, save, restore -/
def KV (S : AN) (k : CS) : Prop := (∃ w, w ≤ S.2.1.length ∧ zN S w k.2.2.1) ∧ k.2.2.2.2.2.2.2.1 6 = 1
theorem z_undo {V U S : AN} {Hs : List AN} {T : List Nat} {k : CS} (h : KB V (Hs ++ [U]) T k) (hS : KV S k) : ∃ k', fL_undo k = some (nI Hs.length, k') ∧ KB U Hs T k' ∧ KV S k' := by
  obtain ⟨⟨w, a0, a1⟩, hI, ⟨h1, q, hq, h2, h3⟩, ⟨hl, hall⟩, hT⟩ := h
  have hlen : (Hs ++ [U]).length = Hs.length + 1 := by rw [List.length_append]; rfl
  rw [hlen] at h1 hl h3
  have hU : (Hs ++ [U])[Hs.length]? = some U := by rw [List.getElem?_append_right (Nat.le_refl _), Nat.sub_self]; rfl
  have hIU := hall U (List.mem_append_right _ List.mem_cons_self)
  obtain ⟨w', u3, u4⟩ := h3 Hs.length U hU
  rw [show (q + 9 + Hs.length - (Hs.length + 1)) % 8 = q by omega] at u4
  have e2 : os_f k.2.2.2.2.2.2.1.1 2 = nI (Hs.length + 1) := h1
  have e1 : os_f k.2.2.2.2.2.2.1.1 1 = nI q := h2
  have nz : ¬ nI (Hs.length + 1) = 0 := nI_ne0 (by omega) (by omega)
  have g8 : gx_in (nI q) 8 := nI_in (by omega) (by decide)
  have eq9 : (nI q).toNatClampNeg = q := nI_clamp (by omega)
  have ed := n_dn8 q hq
  have ef : os_f (os_sf k.2.2.2.2.2.2.1.1 1 (nI ((q + 7) % 8))) 2 - (1 : Int32) = nI Hs.length := by
    show (os_sf k.2.2.2.2.2.2.1.1 1 (nI ((q + 7) % 8))).1 2 - 1 = _
    rw [sf_k (by decide), h1]
    exact nI_pred _
  obtain ⟨n', c1, c2⟩ := c_copy k.1 hIU.1 u4
  have hx : fX8_undo k = some (nI Hs.length, (n', (k.2.1, (k.2.2.1, (k.2.2.2.1, (k.2.2.2.2.1, (k.2.2.2.2.2.1, (hs_up (os_sf (os_sf k.2.2.2.2.2.2.1.1 1 (nI ((q + 7) % 8))) 2 (nI Hs.length), k.2.2.2.2.2.2.1.2) q (k.2.2.2.2.2.2.1.2 q), k.2.2.2.2.2.2.2)))))))) := by
    unfold fX8_undo fX1_takeLatest
    rw [e2, if_neg nz, e1, gx_chk_t g8, ed, ef, gx_b_some, if_neg (n_m1 (by omega)), gx_chk_t g8, eq9, c1, gx_b_some]
    show some ((os_sf (os_sf k.2.2.2.2.2.2.1.1 1 (nI ((q + 7) % 8))) 2 (nI Hs.length)).1 2, _) = _
    rw [sf_same]
  have hf : fL_undo k = gx_or (fX8_undo k) (fun r => some (r.1, r.2)) (gx_b (xX8_undo k) (fun q => if q.1 = 3 then some (((-79) : Int32), q.2) else none)) := rfl
  rw [hx, or_some] at hf
  dsimp only at hf
  refine ⟨_, hf, ⟨⟨w', u3, c2⟩, hIU, ⟨sf_same, (q + 7) % 8, by omega, ?_, fun i X hi => ?_⟩, ⟨by omega, fun X hX => hall X (List.mem_append_left _ hX)⟩, hT⟩, hS⟩
  · show (os_sf (os_sf k.2.2.2.2.2.2.1.1 1 (nI ((q + 7) % 8))) 2 (nI Hs.length)).1 1 = _
    rw [sf_k (by decide), sf_same]
  · have hil := get_lt hi
    obtain ⟨w9, v1, v2⟩ := h3 i X (by rw [List.getElem?_append_left hil]; exact hi)
    refine ⟨w9, v1, ?_⟩
    rw [show ((q + 7) % 8 + 9 + i - Hs.length) % 8 = (q + 9 + i - (Hs.length + 1)) % 8 by omega]
    show zN X w9 (if (q + 9 + i - (Hs.length + 1)) % 8 = q then k.2.2.2.2.2.2.1.2 q else k.2.2.2.2.2.2.1.2 ((q + 9 + i - (Hs.length + 1)) % 8))
    rw [if_neg (by omega)]
    exact v2
theorem z_undo0 {V S : AN} {T : List Nat} {k : CS} (h : KB V [] T k) (hS : KV S k) : ∃ k', fL_undo k = some (-79, k') ∧ KB V [] T k' ∧ KV S k' := by
  have h1 := h.2.2.1.1
  have e2 : os_f k.2.2.2.2.2.2.1.1 2 = 0 := h1
  refine ⟨k, ?_, h, hS⟩
  unfold fL_undo fX8_undo xX8_undo fX1_takeLatest
  rw [e2, if_pos rfl, gx_b_some, gx_b_some, if_pos rfl, if_pos rfl, or_none]
  rfl
theorem z_save {V : AN} {Hs : List AN} {T : List Nat} {k : CS} (h : KB V Hs T k) : ∃ k', fX8_save k = some (nI (cntV V), k') ∧ KB V Hs T k' ∧ KV V k' := by
  obtain ⟨⟨w, a0, a1⟩, hI, hr⟩ := h
  obtain ⟨n', c1, c2⟩ := c_copy k.2.2.1 hI.1 a1
  refine ⟨(k.1, (k.2.1, (n', (k.2.2.2.1, (k.2.2.2.2.1, (k.2.2.2.2.2.1, (k.2.2.2.2.2.2.1, os_sf k.2.2.2.2.2.2.2 6 1))))))), ?_, ⟨⟨w, a0, a1⟩, hI, hr⟩, ⟨w, a0, c2⟩, sf_same⟩
  unfold fX8_save
  rw [c1, gx_b_some, gx_chk_t (Or.inr rfl), c_cserv hI.1.1 c2.1, gx_b_some]
  rfl
theorem z_restore {V S : AN} {T : List Nat} {k : CS} (h : KB V [] T k) (hS : KV S k) (hI : kI S) : ∃ k', fL_restore k = some (nI (cntV S), k') ∧ KB S [] T k' ∧ KV S k' := by
  obtain ⟨-, -, ⟨h1, q, hq, h2, h3⟩, -, hT⟩ := h
  obtain ⟨⟨w', s3, s4⟩, s1⟩ := hS
  obtain ⟨n', c1, c2⟩ := c_copy k.1 hI.1 s4
  refine ⟨(n', (k.2.1, (k.2.2.1, (k.2.2.2.1, (k.2.2.2.2.1, (k.2.2.2.2.2.1, ((os_sf k.2.2.2.2.2.2.1.1 2 0, k.2.2.2.2.2.2.1.2), k.2.2.2.2.2.2.2))))))), ?_, ⟨⟨w', s3, c2⟩, hI, ⟨sf_same, q, hq, ?_, fun i U hi => by simp at hi⟩, ⟨Nat.zero_le _, fun U hU => by cases hU⟩, hT⟩, ⟨w', s3, s4⟩, s1⟩
  · unfold fL_restore fX8_restore
    rw [if_neg (show ¬ os_f k.2.2.2.2.2.2.2 6 = 0 from by rw [show os_f k.2.2.2.2.2.2.2 6 = 1 from s1]; decide), c1, gx_b_some]
    unfold fX1_clear
    rw [gx_b_some, c_cserv hI.1.1 c2.1, gx_b_some, or_some]
    rfl
  · show (os_sf k.2.2.2.2.2.2.1.1 2 0).1 1 = nI q
    rw [sf_k (by decide)]; exact h2
/-! all is kept -/
section Kept9
variable {aa : gx_AA}
theorem n_add1 (x : Int32) : x + (-1) = x - 1 := by
  rw [Int32.sub_eq_add_neg]
theorem k_29 {S0 : AN} {S : Nat → Int64} {made : Nat} (hm : made < 70) (hI0 : kI S0) (hs0 : SVp (V := S0) aa (S made)) : ∀ (l x n κ : Nat) (Hs : List AN) (V : AN) (k : CS), Hs.length = l → l < n → κ + 202 * l + 210 ≤ 2200 → l ≤ x → x ≤ 60 → KB V Hs [] k → KV S0 k → (∀ i U, Hs[i]? = some U → SVp (V := U) aa (S (x - l + i))) → ∃ k' κ', fL_isKept_29 aa n (k, κ, S) (nI made) (nI (cntV S0)) (nI l) (nI x - 1) = some (1, (k', κ', S)) := by
  intro l
  induction l with
  | zero =>
    intro x n κ Hs V k hl hn hκ hx hx6 h hS hsv
    obtain ⟨m, rfl⟩ : ∃ m, n = m + 1 := ⟨n - 1, by omega⟩
    have e : Hs = [] := List.length_eq_zero_iff.mp hl
    subst e
    obtain ⟨k1, u1, u2, u3⟩ := z_undo0 h hS
    obtain ⟨k2, r1, r2, r3⟩ := z_restore u2 u3 hI0
    obtain ⟨κ3, hsum⟩ := hs0
    obtain ⟨k3, v1, v2, v3⟩ := z_undo0 r2 r3
    refine ⟨k3, κ + 1 + 1 + 200 + 1, ?_⟩
    rw [fL_isKept_29_s]
    dsimp only
    rw [if_pos (show nI 0 ≤ (0 : Int32) by decide), gx_chk_t (by omega), u1, gx_b_some]
    dsimp only
    rw [if_pos rfl, gx_chk_t (by omega), r1, gx_b_some]
    dsimp only
    rw [if_pos rfl, gx_chk_t (by omega), hsum k2 (KB_kq r2), gx_b_some]
    dsimp only
    rw [gx_chk_t (nI_in (by omega) (by decide)), nI_clamp (by omega), if_pos ((lg_cmp_eq _ _).mpr rfl), gx_chk_t (by omega), v1, gx_b_some]
    dsimp only
    rw [if_pos rfl, gx_chk_t (by omega)]
  | succ l ih =>
    intro x n κ Hs V k hl hn hκ hx hx6 h hS hsv
    obtain ⟨m, rfl⟩ : ∃ m, n = m + 1 := ⟨n - 1, by omega⟩
    obtain ⟨Hs', U, rfl⟩ : ∃ Hs' U, Hs = Hs' ++ [U] := by
      have hne : Hs ≠ [] := fun q => by rw [q] at hl; cases hl
      exact ⟨Hs.dropLast, Hs.getLast hne, (List.dropLast_concat_getLast hne).symm⟩
    have hl' : Hs'.length = l := by rw [List.length_append] at hl; exact Nat.succ.inj hl
    obtain ⟨k1, u1, u2, u3⟩ := z_undo h hS
    have hU : (Hs' ++ [U])[l]? = some U := by rw [← hl', List.getElem?_append_right (Nat.le_refl _), Nat.sub_self]; rfl
    obtain ⟨κ3, hsum⟩ := hsv l U hU
    rw [show x - (l + 1) + l = x - 1 by omega] at hsum
    obtain ⟨k', κ', hx'⟩ := ih (x - 1) m (κ + 1 + 200) Hs' U k1 hl' (by omega) (by omega) (by omega) (by omega) u2 u3 (fun i X hi => by
      have := hsv i X (by rw [List.getElem?_append_left (get_lt hi)]; exact hi)
      rw [show x - (l + 1) + i = x - 1 - l + i by omega] at this
      exact this)
    refine ⟨k', κ', ?_⟩
    have e5 : nI x - (1 : Int32) = nI (x - 1) := n_sub (a := x) (b := 1) (by omega)
    rw [fL_isKept_29_s]
    dsimp only
    rw [if_neg (nI_nle (by omega) (by omega)), gx_chk_t (by omega), u1, gx_b_some]
    dsimp only
    rw [hl', pk_m1, if_pos rfl, gx_chk_t (by omega), hsum k1 (KB_kq u2), gx_b_some]
    dsimp only
    rw [e5, gx_chk_t (nI_in (by omega) (by decide)), nI_clamp (by omega), if_pos ((lg_cmp_eq _ _).mpr rfl), n_add1]
    exact hx'
theorem p_isKept {V : AN} {Hs : List AN} {k : CS} {S : Nat → Int64} {made : Nat} (h : KB V Hs [] k) (hm : made ≤ 60) (hl : Hs.length = if made < 8 then made else 8) (hs0 : SVp (V := V) aa (S made)) (hsv : ∀ i U, Hs[i]? = some U → SVp (V := U) aa (S (made - Hs.length + i))) : ∃ k' κ', fL_isKept aa (k, S) (nI made) = some (1, (k', κ', S)) := by
  obtain ⟨k1, s1, s2, s3⟩ := z_save h
  have hl8 : Hs.length ≤ 8 := by rw [hl]; split <;> omega
  have hlm : Hs.length ≤ made := by rw [hl]; split <;> omega
  obtain ⟨k', κ', hx⟩ := k_29 (aa := aa) (S := S) (made := made) (by omega) h.2.1 hs0 Hs.length made 2000 0 Hs V k1 rfl (by omega) (by omega) hlm hm s2 s3 hsv
  refine ⟨k', κ', ?_⟩
  have e8 : (if nI made < (8 : Int32) then nI made else (8 : Int32)) = nI Hs.length := by
    show (if nI made < nI 8 then nI made else nI 8) = _
    rw [n_lt (by omega) (by omega), n_ite, hl]
  have eu : fX8_undoCount k1 = some (nI Hs.length) := congrArg some s2.2.2.1.1
  unfold fL_isKept
  rw [gx_chk_t (by decide), show fX8_save (k, S).1 = _ from s1, gx_b_some]
  dsimp only
  rw [gx_chk_t (by decide), gx_chk_t (by decide), eu, gx_b_some, e8, if_pos rfl]
  exact hx
end Kept9
