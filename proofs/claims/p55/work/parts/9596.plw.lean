/-! a round of the law; all rounds -/
theorem i32_mv {a b c d : Int32} (h : a + b = c + d) : a = c - (b - d) := by
  apply Int32.toBitVec_inj.mp
  have h2 := congrArg (fun x => x.toBitVec.toNat) h
  apply BitVec.eq_of_toNat_eq
  have l1 := a.toBitVec.isLt
  have l2 := b.toBitVec.isLt
  have l3 := c.toBitVec.isLt
  have l4 := d.toBitVec.isLt
  simp only [Int32.toBitVec_add, Int32.toBitVec_sub, BitVec.toNat_add, BitVec.toNat_sub] at h2 ⊢
  omega
def LI (aa : gx_AA) (n made : Nat) (V : AN) (Hs : List AN) (S : Nat → Int64) (k : CS) : Prop := KB V Hs [] k ∧ tot V ≤ n ∧ made ≤ n ∧ Hs.length = (if made < 8 then made else 8) ∧ (∀ i U, Hs[i]? = some U → SVp (V := U) aa (S (made - Hs.length + i))) ∧ SVp (V := V) aa (S made)
theorem thru {β : Type} {X : β} {Y : Nat → β} {Q : β → Prop} {κ c : Nat} (h : ∃ κ', κ' ≤ κ + c ∧ X = Y κ') (g : ∀ κ', κ' ≤ κ + c → Q (Y κ')) : Q X := by
  obtain ⟨κ', h1, h2⟩ := h
  rw [h2]
  exact g κ' h1
theorem LI_done {aa : gx_AA} {n made : Nat} {V V' : AN} {Hs : List AN} {S : Nat → Int64} {k k' : CS} {v : Int64} (hL : LI aa n made V Hs S k) (h' : KB V' (hA Hs V) [] k') (ht : tot V' ≤ n + 1) (hs : SVp (V := V') aa v) : LI aa (n + 1) (made + 1) V' (hA Hs V) (vp_updL S (made + 1) v) k' := by
  obtain ⟨h, t0, md, hl, hsv, hs0⟩ := hL
  have hl8 : Hs.length ≤ 8 := by rw [hl]; split <;> omega
  have hlm : Hs.length ≤ made := by rw [hl]; split <;> omega
  have hlen := hA_len Hs V hl8
  have h1 : (hA Hs V).length = if made + 1 < 8 then made + 1 else 8 := by
    rw [hlen, hl]
    split <;> split <;> omega
  refine ⟨h', ht, by omega, h1, fun i U hi => ?_, by rw [pk_uLs]; exact hs⟩
  have hil := get_lt hi
  have hlm2 : (hA Hs V).length ≤ made + 1 := by rw [h1]; split <;> omega
  rw [pk_uLn (by omega)]
  rcases hA_get Hs V hl8 hi with ⟨q1, q2⟩ | ⟨q1, q2⟩
  · have := hsv _ U q2
    have e : made - Hs.length + (Hs.length - 7 + i) = made + 1 - (hA Hs V).length + i := by
      have h7 : Hs.length < 8 → made < 8 := fun q => by
        rw [hl] at q
        by_cases c : made < 8
        · exact c
        · rw [if_neg c] at q; omega
      by_cases c8 : Hs.length < 8
      · have := h7 c8
        rw [hl, if_pos this] at *
        omega
      · omega
    rw [e] at this
    exact this
  · rw [q2, show made + 1 - (hA Hs V).length + i = made by omega]
    exact hs0
section Round9
variable {V V' : AN} {Hs : List AN} {k k' : CS} {aa : gx_AA} {S : Nat → Int64} {k31 : LwT → Int32 → Int32 → Int32 → Int32 → Option (Int32 × LwT)} {κ n made m : Nat}
theorem t_done {j : Nat} {v6 v11 v12 v13 v14 v15 v16 v17 v18 v19 v20 v21 v22 v23 : Int32} {v7 : Int64} (hL : LI aa n made V Hs S k) (hn : n < 56) (hm : m + 5 < 1000) (hj : j < 42) (hκ : κ + 6000 ≤ 500000) (h' : KB V' (hA Hs V) [] k') (htt : tot V' = tot V + (if 15 < j ∧ j < 27 then 1 else 0))
    (H1 : 6 < j ∨ (v23 = v11 ∧ fX8_officerCount k' = some (v20 + 1) ∧ fL_superior k' v23 = some (v12, k') ∧ fL_commandSize k' v23 = some (1, k')))
    (H2 : j < 7 ∨ 8 < j ∨ fL_rank k' v12 = some (v23, k'))
    (H3 : j < 9 ∨ 13 < j ∨ (fL_superior k' v12 = some (v13, k') ∧ fL_commandSize k' v12 = some (v18, k') ∧ fL_commandSize k' v13 = some (v23, k')))
    (H4 : j < 14 ∨ 15 < j ∨ (v23 = v19 ∧ fX8_officerCount k' = some (v20 - 1) ∧ fL_rank k' v12 = some (-77, k') ∧ fX8_isInNavy k' v12 = some 0))
    (H5 : j < 16 ∨ 26 < j ∨ (v23 = v15 ∧ fL_holder k' v23 = some (v13, k') ∧ fL_target k' v23 = some (v12, k')))
    (H6 : j ≤ 30 ∨ 40 ≤ j ∨ psd k' v14 v15 v16 v17 v21 v22 v23 (nI (V'.2.2.2.2.1 + V'.2.2.2.2.2.1 + V'.2.2.2.2.2.2))) :
    ∃ S' k'' κ', κ' ≤ κ + 5820 ∧ LI aa (n + 1) (made + 1) V' (hA Hs V) S' k'' ∧ fL_law_295 aa k31 (k', κ, S) (nI made) (nI m) (nI (tot V)) v6 v7 (nI Hs.length) (nI j) v11 v12 v13 v14 v15 v16 v17 v18 v19 v20 v21 v22 v23 1 = k31 (k'', κ', S') (nI (made + 1)) (nI (m + 5)) (nI (tot V')) (v6 + 1) := by
  have ht1 : tot V' ≤ n + 1 := by
    have := hL.2.1
    rw [htt]
    split <;> omega
  have hmd := hL.2.2.1
  have e295 : fL_law_295 aa k31 (k', κ, S) (nI made) (nI m) (nI (tot V)) v6 v7 (nI Hs.length) (nI j) v11 v12 v13 v14 v15 v16 v17 v18 v19 v20 v21 v22 v23 1 = fL_law_324 aa k31 (k', κ, S) (nI made) (nI m) (nI (tot V')) v6 v7 (nI Hs.length) (nI j) v11 v12 v13 v14 v15 v16 v17 v18 v19 v20 v21 v22 v23 1 := by
    by_cases c1 : j ≤ 15
    · rw [t_295a hj (Or.inr (Or.inl c1)), htt, if_neg (by omega)]
      rfl
    by_cases c2 : 27 ≤ j
    · rw [t_295a hj (Or.inr (Or.inr c2)), htt, if_neg (by omega)]
      rfl
    rw [t_295b hj one0 c1 c2, htt, if_pos ⟨by omega, by omega⟩, nI_1]
  rw [e295, t_324 (V := V') (KB_kq h') (by omega) rfl]
  refine thru (Q := fun z => ∃ S' k'' κ', κ' ≤ κ + 5820 ∧ LI aa (n + 1) (made + 1) V' (hA Hs V) S' k'' ∧ z = k31 (k'', κ', S') (nI (made + 1)) (nI (m + 5)) (nI (tot V')) (v6 + 1)) (t_359 hj (by omega) (Or.inr H1)) (fun κ1 l1 => ?_)
  refine thru (Q := fun z => ∃ S' k'' κ', κ' ≤ κ + 5820 ∧ LI aa (n + 1) (made + 1) V' (hA Hs V) S' k'' ∧ z = k31 (k'', κ', S') (nI (made + 1)) (nI (m + 5)) (nI (tot V')) (v6 + 1)) (t_420 hj (by omega) (Or.inr H2)) (fun κ2 l2 => ?_)
  refine thru (Q := fun z => ∃ S' k'' κ', κ' ≤ κ + 5820 ∧ LI aa (n + 1) (made + 1) V' (hA Hs V) S' k'' ∧ z = k31 (k'', κ', S') (nI (made + 1)) (nI (m + 5)) (nI (tot V')) (v6 + 1)) (t_460 hj (by omega) (Or.inr H3)) (fun κ3 l3 => ?_)
  refine thru (Q := fun z => ∃ S' k'' κ', κ' ≤ κ + 5820 ∧ LI aa (n + 1) (made + 1) V' (hA Hs V) S' k'' ∧ z = k31 (k'', κ', S') (nI (made + 1)) (nI (m + 5)) (nI (tot V')) (v6 + 1)) (t_522 hj (by omega) (Or.inr H4)) (fun κ4 l4 => ?_)
  refine thru (Q := fun z => ∃ S' k'' κ', κ' ≤ κ + 5820 ∧ LI aa (n + 1) (made + 1) V' (hA Hs V) S' k'' ∧ z = k31 (k'', κ', S') (nI (made + 1)) (nI (m + 5)) (nI (tot V')) (v6 + 1)) (t_589 hj (by omega) (Or.inr H5)) (fun κ5 l5 => ?_)
  refine thru (Q := fun z => ∃ S' k'' κ', κ' ≤ κ + 5820 ∧ LI aa (n + 1) (made + 1) V' (hA Hs V) S' k'' ∧ z = k31 (k'', κ', S') (nI (made + 1)) (nI (m + 5)) (nI (tot V')) (v6 + 1)) (t_647 hj (by omega) (Or.inr H6)) (fun κ6 l6 => ?_)
  obtain ⟨τ, v, hs, e⟩ := t_786d (aa := aa) (S := S) (k31 := k31) (κ := κ6) (v5 := nI (tot V')) (v6 := v6) (v9 := nI Hs.length) (v24 := 1) (v7 := v7) h' (by omega) one0 (made := made) (m := m) (by omega) hm (by omega)
  exact ⟨vp_updL S (made + 1) v, kO k' τ, κ6 + 5600 + 200, by omega, LI_done hL (KB_O h') ht1 hs, e⟩
theorem t_refd {j : Nat} {v6 v11 v12 v13 v14 v15 v16 v17 v18 v19 v20 v21 v22 v23 : Int32} {v7 : Int64} (hL : LI aa n made V Hs S k) (hn : n < 56) (hm : m + 5 < 1000) (hj : j < 42) (hκ : κ + 6000 ≤ 500000) (h' : KB V Hs [] k') (hs : SVp (V := V) aa v7) :
    ∃ k'' κ', κ' ≤ κ + 5820 ∧ LI aa (n + 1) made V Hs S k'' ∧ fL_law_295 aa k31 (k', κ, S) (nI made) (nI m) (nI (tot V)) v6 v7 (nI Hs.length) (nI j) v11 v12 v13 v14 v15 v16 v17 v18 v19 v20 v21 v22 v23 0 = k31 (k'', κ', S) (nI made) (nI (m + 5)) (nI (tot V)) (v6 + 1) := by
  obtain ⟨h0, t0, md, hl, hsv, hs0⟩ := hL
  rw [t_295a hj (Or.inl rfl), t_324 (V := V) (KB_kq h') (by omega) rfl]
  refine thru (Q := fun z => ∃ k'' κ', κ' ≤ κ + 5820 ∧ LI aa (n + 1) made V Hs S k'' ∧ z = k31 (k'', κ', S) (nI made) (nI (m + 5)) (nI (tot V)) (v6 + 1)) (t_359 hj (by omega) (Or.inl rfl)) (fun κ1 l1 => ?_)
  refine thru (Q := fun z => ∃ k'' κ', κ' ≤ κ + 5820 ∧ LI aa (n + 1) made V Hs S k'' ∧ z = k31 (k'', κ', S) (nI made) (nI (m + 5)) (nI (tot V)) (v6 + 1)) (t_420 hj (by omega) (Or.inl rfl)) (fun κ2 l2 => ?_)
  refine thru (Q := fun z => ∃ k'' κ', κ' ≤ κ + 5820 ∧ LI aa (n + 1) made V Hs S k'' ∧ z = k31 (k'', κ', S) (nI made) (nI (m + 5)) (nI (tot V)) (v6 + 1)) (t_460 hj (by omega) (Or.inl rfl)) (fun κ3 l3 => ?_)
  refine thru (Q := fun z => ∃ k'' κ', κ' ≤ κ + 5820 ∧ LI aa (n + 1) made V Hs S k'' ∧ z = k31 (k'', κ', S) (nI made) (nI (m + 5)) (nI (tot V)) (v6 + 1)) (t_522 hj (by omega) (Or.inl rfl)) (fun κ4 l4 => ?_)
  refine thru (Q := fun z => ∃ k'' κ', κ' ≤ κ + 5820 ∧ LI aa (n + 1) made V Hs S k'' ∧ z = k31 (k'', κ', S) (nI made) (nI (m + 5)) (nI (tot V)) (v6 + 1)) (t_589 hj (by omega) (Or.inl rfl)) (fun κ5 l5 => ?_)
  refine thru (Q := fun z => ∃ k'' κ', κ' ≤ κ + 5820 ∧ LI aa (n + 1) made V Hs S k'' ∧ z = k31 (k'', κ', S) (nI made) (nI (m + 5)) (nI (tot V)) (v6 + 1)) (t_647 hj (by omega) (Or.inl rfl)) (fun κ6 l6 => ?_)
  obtain ⟨τ, e⟩ := t_786r (aa := aa) (S := S) (k31 := k31) (κ := κ6) (v3 := nI made) (v5 := nI (tot V)) (v6 := v6) (v7 := v7) h' (by omega) hs (m := m) hm (by omega)
  exact ⟨kO k' τ, κ6 + 5600 + 200, by omega, ⟨KB_O h', by omega, by omega, hl, hsv, hs0⟩, e⟩
/-- the only order and its way -/
def wyS (V : AN) (v21 v22 : Int32) : Prop := v22 < 0 ∨ ∃ h t sv d, V.2.1 = [(h, t, sv)] ∧ h ∈ ch V.1.2.2.2.2 t ∧ hv V.1.2.2.2.2 t = true ∧ wayC V h t sv ∧ v21 = nI d ∧ d < 20 ∧ (ch V.1.2.2.2.2 t).length = (ch V.1.2.2.2.2 h).length + d
theorem ps_ok (h : kq V k) (ht : tot V ≤ 60) (h' : kq V' k') {hh r : Nat} (hh8 : hh < 8) {v21 v22 : Int32} (hws : wyS V v21 v22) (hp : PoPass V (nI hh) V' r) : psd k' (nI hh) (nI V.2.1.length) (nI (V.2.2.2.2.1 + V.2.2.2.2.2.1 + V.2.2.2.2.2.2)) (nI V.2.2.2.2.1) v21 v22 (nI r) (nI (V'.2.2.2.2.1 + V'.2.2.2.2.2.1 + V'.2.2.2.2.2.2)) := by
  have hw := h.2
  obtain ⟨p1, p2⟩ := po_pass hw hp
  obtain ⟨q, q1, q2, q3, q4, q5, q6⟩ := hp
  have eq9 : hh = q := (nI_eq (by omega) (by omega)).mp q3
  subst eq9
  have hA := hw.1.2.1
  refine ⟨?_, ?_, ?_⟩
  · rw [q_executedOrders h', p2, nI_add]
  · rw [q_orderCount h']
    refine congrArg some (i32_mv ?_)
    rw [nI_add, nI_add]
    refine congrArg nI ?_
    unfold tot at p1
    omega
  · rcases hws with c | ⟨o, t, sv, d, w1, w2, w3, w4, w5, w6, w7⟩
    · exact Or.inl c
    right
    have htA := hv_lt hw.1 w3
    obtain ⟨y1, y2⟩ := way_hours hh V o d hw.1 w1 htA w2 w4 w7
    rw [← q4] at y1 y2
    unfold tot at ht
    rw [w5]
    by_cases c : d ≤ hh
    · right
      have := y1 c
      refine ⟨by rw [nI_ltI (by omega) (by omega)]; omega, ?_⟩
      rw [show r = 1 by omega]
      rfl
    · left
      obtain ⟨z1, z2, nn, z3, z4, z5⟩ := y2 (by omega)
      have hnv := (ch_mem hw.1 z4).2.1
      have hl9 := (ch_cX hw.1 t).2
      refine ⟨(nI_ltI (by omega) (by omega)).mpr (by omega), ?_, ?_, nI nn, nI t, ?_, ?_, ?_⟩
      · rw [show r = 0 by omega]
        rfl
      · rw [q_orderCount h', z3]
        rfl
      · exact q_holder_t (a := 0) (e := (nn, t, sv)) h' (by rw [z3]; rfl)
      · exact q_target_t (a := 0) (e := (nn, t, sv)) h' (by rw [z3]; rfl)
      · rw [q_hoursFor_t h' (by rw [z2]; exact hnv) (by rw [z2]; exact w3) (by rw [z2]; exact z4), z2, z5, w7, n_sub (by omega), n_sub (by omega)]
        rw [show (ch V.1.2.2.2.2 o).length + d - ((ch V.1.2.2.2.2 o).length + hh) = d - hh by omega]
theorem t_264 {j a b hh : Nat} {v6 sz un v21 v22 : Int32} {v7 : Int64} (hL : LI aa n made V Hs S k) (hn : n < 56) (hm : m + 5 < 1000) (hj : j < 42) (ha : a < 100) (hb : b < 100) (hh8 : hh < 8) (hκ : κ + 7000 ≤ 500000) (hsz : fL_commandSize k (nI a) = some (sz, k)) (hun : fL_subordinates k (nI a) = some (un, k)) (hws : wyS V v21 v22) (hs : SVp (V := V) aa v7) :
    ∃ made' V' Hs' S' k'' κ', κ' ≤ κ + 6720 ∧ LI aa (n + 1) made' V' Hs' S' k'' ∧ fL_law_264 aa k31 (k, κ, S) (nI made) (nI m) (nI (tot V)) v6 v7 (nI Hs.length) (nI j) (nI V.1.1) (nI a) (nI b) (nI hh) (nI V.2.1.length) (nI (V.2.2.2.2.1 + V.2.2.2.2.2.1 + V.2.2.2.2.2.2)) (nI V.2.2.2.2.1) sz un (nI (cntV V)) v21 v22 = k31 (k'', κ', S') (nI made') (nI (m + 5)) (nI (tot V')) (v6 + 1) := by
  have h := hL.1
  have hk := KB_kq h
  have hw := h.2.1.1
  have hA9 := hw.1.2.1
  have ht0 := hL.2.1
  unfold fL_law_264
  dsimp only
  rw [gx_chk_t (by omega)]
  rcases p_does (aa := aa) (V := V) (Hs := Hs) (k := k) h (by omega) (m := m) (j := j) (a := a) (b := b) (hh := hh) (by omega) hj ha with ⟨v, k', κd, e1, e2, h'⟩ | ⟨V', r, k', κd, e1, e2, h', hP⟩
  · rw [e1, gx_b_some, if_pos (show (v, (k', κd)).1 ≤ (-70 : Int32) from e2)]
    obtain ⟨k2, κ2, l2, i2, x2⟩ := t_refd (aa := aa) (k31 := k31) (κ := κ + 900) (v6 := v6) (v7 := v7) (v11 := nI V.1.1) (v12 := nI a) (v13 := nI b) (v14 := nI hh) (v15 := nI V.2.1.length) (v16 := nI (V.2.2.2.2.1 + V.2.2.2.2.2.1 + V.2.2.2.2.2.2)) (v17 := nI V.2.2.2.2.1) (v18 := sz) (v19 := un) (v20 := nI (cntV V)) (v21 := v21) (v22 := v22) (v23 := v) (m := m) hL hn hm hj (by omega) h' hs
    exact ⟨made, V, Hs, S, k2, κ2, by omega, i2, x2⟩
  · have hk' := KB_kq h'
    have hw' := h'.2.1.1
    have hA9' := hw'.1.2.1
    have hcn : fX8_officerCount k' = some (nI (cntV V')) := q_officerCount hk'
    have hgt : ¬ nI r ≤ (-70 : Int32) := by
      rw [Int32.le_iff_toInt_le, nI_toInt e2, show (-70 : Int32).toInt = -70 by decide]
      omega
    rw [e1, gx_b_some, if_neg (show ¬ (nI r, (k', κd)).1 ≤ (-70 : Int32) from hgt)]
    have fin : tot V' = tot V + (if 15 < j ∧ j < 27 then 1 else 0) →
        (6 < j ∨ (nI r = nI V.1.1 ∧ fX8_officerCount k' = some (nI (cntV V) + 1) ∧ fL_superior k' (nI r) = some (nI a, k') ∧ fL_commandSize k' (nI r) = some (1, k'))) →
        (j < 7 ∨ 8 < j ∨ fL_rank k' (nI a) = some (nI r, k')) →
        (j < 9 ∨ 13 < j ∨ (fL_superior k' (nI a) = some (nI b, k') ∧ fL_commandSize k' (nI a) = some (sz, k') ∧ fL_commandSize k' (nI b) = some (nI r, k'))) →
        (j < 14 ∨ 15 < j ∨ (nI r = un ∧ fX8_officerCount k' = some (nI (cntV V) - 1) ∧ fL_rank k' (nI a) = some (-77, k') ∧ fX8_isInNavy k' (nI a) = some 0)) →
        (j < 16 ∨ 26 < j ∨ (nI r = nI V.2.1.length ∧ fL_holder k' (nI r) = some (nI b, k') ∧ fL_target k' (nI r) = some (nI a, k'))) →
        (j ≤ 30 ∨ 40 ≤ j ∨ psd k' (nI hh) (nI V.2.1.length) (nI (V.2.2.2.2.1 + V.2.2.2.2.2.1 + V.2.2.2.2.2.2)) (nI V.2.2.2.2.1) v21 v22 (nI r) (nI (V'.2.2.2.2.1 + V'.2.2.2.2.2.1 + V'.2.2.2.2.2.2))) →
        ∃ made' V' Hs' S' k'' κ', κ' ≤ κ + 6720 ∧ LI aa (n + 1) made' V' Hs' S' k'' ∧ fL_law_295 aa k31 (k', κ + 900, S) (nI made) (nI m) (nI (tot V)) v6 v7 (nI Hs.length) (nI j) (nI V.1.1) (nI a) (nI b) (nI hh) (nI V.2.1.length) (nI (V.2.2.2.2.1 + V.2.2.2.2.2.1 + V.2.2.2.2.2.2)) (nI V.2.2.2.2.1) sz un (nI (cntV V)) v21 v22 (nI r) 1 = k31 (k'', κ', S') (nI made') (nI (m + 5)) (nI (tot V')) (v6 + 1) := by
      intro H0 H1 H2 H3 H4 H5 H6
      obtain ⟨S2, k2, κ2, l2, i2, x2⟩ := t_done (aa := aa) (k31 := k31) (κ := κ + 900) (v6 := v6) (v7 := v7) (v21 := v21) (v22 := v22) (v14 := nI hh) (v16 := nI (V.2.2.2.2.1 + V.2.2.2.2.2.1 + V.2.2.2.2.2.2)) (v17 := nI V.2.2.2.2.1) (m := m) hL hn hm hj (by omega) h' H0 H1 H2 H3 H4 H5 H6
      exact ⟨made + 1, V', hA Hs V, S2, k2, κ2, by omega, i2, x2⟩
    unfold PoK at hP
    by_cases c1 : j ≤ 6
    · rw [if_pos c1] at hP
      obtain ⟨f1, f2, f3, f4, ⟨o, f5, f6⟩, f7, f8⟩ := po_add hw hw' hP
      refine fin (by rw [f1, if_neg (by omega), Nat.add_zero]) (Or.inr ⟨by rw [f2], by rw [hcn, f7, nI_1], ?_, ?_⟩) (Or.inl (by omega)) (Or.inl (by omega)) (Or.inl (by omega)) (Or.inl (by omega)) (Or.inl (by omega))
      · rw [q_superior_t hk' f3 f4, f6, f5]
        rfl
      · rw [q_commandSize_t hk' f3, f8]
        rfl
    rw [if_neg c1] at hP
    by_cases c2 : j ≤ 8
    · rw [if_pos c2] at hP
      obtain ⟨f1, o, f2, f3, f4⟩ := po_raise hP
      refine fin (by rw [f1, if_neg (by omega), Nat.add_zero]) (Or.inl (by omega)) (Or.inr (Or.inr ?_)) (Or.inl (by omega)) (Or.inl (by omega)) (Or.inl (by omega)) (Or.inl (by omega))
      rw [f2, q_rank_t hk' f3, f4]
    rw [if_neg c2] at hP
    by_cases c3 : j ≤ 13
    · rw [if_pos c3] at hP
      obtain ⟨f1, o, s, f2, f3, f4, f5, f6, f7, f8, f9, f10⟩ := po_move hw hw' hP
      refine fin (by rw [f1, if_neg (by omega), Nat.add_zero]) (Or.inl (by omega)) (Or.inr (Or.inl (by omega))) (Or.inr (Or.inr ⟨?_, ?_, ?_⟩)) (Or.inl (by omega)) (Or.inl (by omega)) (Or.inl (by omega))
      · rw [f2, q_superior_t hk' f5 f7, f8, f3]
        rfl
      · rw [f2, q_commandSize_t hk f4] at hsz
        rw [f2, q_commandSize_t hk' f5, f9]
        have := congrArg Prod.fst (Option.some.inj hsz)
        exact congrArg (fun z => some (z, k')) this
      · rw [f3, q_commandSize_t hk' f6, f10]
    rw [if_neg c3] at hP
    by_cases c4 : j ≤ 15
    · rw [if_pos c4] at hP
      obtain ⟨f1, o, f2, f3, f4, f5, f6, f7⟩ := po_fire hw hP
      have hnn : ¬ ∃ p, nI o = nI p ∧ hv V'.1.2.2.2.2 p = true := by
        rintro ⟨p, g1, g2⟩
        have := hv_lt hw'.1 g2
        rw [← (nI_eq (by omega) (by omega)).mp g1, f5] at g2
        cases g2
      refine fin (by rw [f1, if_neg (by omega), Nat.add_zero]) (Or.inl (by omega)) (Or.inr (Or.inl (by omega))) (Or.inr (Or.inl (by omega))) (Or.inr (Or.inr ⟨?_, ?_, ?_, ?_⟩)) (Or.inl (by omega)) (Or.inl (by omega))
      · rw [f2, q_subordinates_t hk f4] at hun
        have := congrArg Prod.fst (Option.some.inj hun)
        rw [f6]
        exact this
      · rw [hcn, ← f7, nI_pred]
      · rw [f2, q_rank_f hk' hnn]
      · rw [f2, q_isInNavy_f hk' hnn]
    rw [if_neg c4] at hP
    by_cases c5 : j ≤ 26
    · rw [if_pos c5] at hP
      obtain ⟨f1, f2, o, s, v, f3, f4, f5⟩ := po_send hP
      refine fin (by rw [f1, if_pos ⟨by omega, by omega⟩]) (Or.inl (by omega)) (Or.inr (Or.inl (by omega))) (Or.inr (Or.inl (by omega))) (Or.inr (Or.inl (by omega))) (Or.inr (Or.inr ⟨by rw [f2], ?_, ?_⟩)) (Or.inl (by omega))
      · rw [q_holder_t hk' f5, f3]
      · rw [q_target_t hk' f5, f4]
    rw [if_neg c5] at hP
    by_cases c6 : j ≤ 30
    · rw [if_pos c6] at hP
      exact fin (by rw [po_book hP, if_neg (by omega), Nat.add_zero]) (Or.inl (by omega)) (Or.inr (Or.inl (by omega))) (Or.inr (Or.inl (by omega))) (Or.inr (Or.inl (by omega))) (Or.inr (Or.inl (by omega))) (Or.inl (by omega))
    rw [if_neg c6] at hP
    by_cases c7 : j ≤ 39
    · rw [if_pos c7] at hP
      exact fin (by rw [(po_pass hw hP).1, if_neg (by omega), Nat.add_zero]) (Or.inl (by omega)) (Or.inr (Or.inl (by omega))) (Or.inr (Or.inl (by omega))) (Or.inr (Or.inl (by omega))) (Or.inr (Or.inl (by omega))) (Or.inr (Or.inr (ps_ok hk (by omega) hk' hh8 hws hP)))
    rw [if_neg c7] at hP
    exact fin (by rw [hP, if_neg (by omega), Nat.add_zero]) (Or.inl (by omega)) (Or.inr (Or.inl (by omega))) (Or.inr (Or.inl (by omega))) (Or.inr (Or.inl (by omega))) (Or.inr (Or.inl (by omega))) (Or.inr (Or.inl (by omega)))
theorem t_145 {j a b : Nat} {v6 : Int32} {v7 : Int64} (hL : LI aa n made V Hs S k) (hn : n < 56) (hm : m + 5 < 1000) (hj : j < 42) (ha : a < 100) (hb : b < 100) (hκ : κ + 7100 ≤ 500000) (hs : SVp (V := V) aa v7) :
    ∃ made' V' Hs' S' k'' κ', κ' ≤ κ + 6740 ∧ LI aa (n + 1) made' V' Hs' S' k'' ∧ fL_law_145 aa k31 (k, κ, S) (nI made) (nI m) (nI (tot V)) v6 v7 (nI Hs.length) (nI j) (nI V.1.1) (nI a) (nI b) = k31 (k'', κ', S') (nI made') (nI (m + 5)) (nI (tot V')) (v6 + 1) := by
  have h := hL.1
  have hk := KB_kq h
  have hw := h.2.1.1
  have hA := hw.1.2.1
  have hK6 := hw.2.2.2.1
  obtain ⟨sz, hsz⟩ := u_commandSize (V := V) (nI a)
  obtain ⟨un, hun⟩ := u_subordinates (V := V) (nI a)
  obtain ⟨hh, hh8, hpk⟩ := xpick_in aa (nI (m + 3)) (b := 8) (by decide) (by decide)
  have hcn : fX8_officerCount k = some (nI (cntV V)) := q_officerCount hk
  have hκ0 : κ ≤ 500000 := by omega
  unfold fL_law_145
  dsimp only
  rw [show nI m + (3 : Int32) = nI (m + 3) from nI_add m 3, show xpick aa (nI (m + 3)) (8 : Int32) = nI hh from hpk, gx_chk_t ⟨hκ0, nI_pos (by omega), by decide⟩, gx_chk_t hκ0, q_orderCount hk, gx_b_some, gx_chk_t hκ0, q_executedOrders hk, gx_b_some, gx_chk_t hκ0, q_refusedOrders hk, gx_b_some, gx_chk_t hκ0, q_lostOrders hk, gx_b_some, gx_chk_t hκ0, gx_b_some, gx_chk_t (by omega), hsz k hk, gx_b_some]
  dsimp only
  rw [gx_chk_t (by omega), hun k hk, gx_b_some]
  dsimp only
  rw [gx_chk_t (by omega), hcn, gx_b_some, nI_add, nI_add]
  have go : ∀ (κ1 : Nat) (v21 v22 : Int32), κ1 ≤ κ + 9 → wyS V v21 v22 → ∃ made' V' Hs' S' k'' κ', κ' ≤ κ + 6740 ∧ LI aa (n + 1) made' V' Hs' S' k'' ∧ fL_law_264 aa k31 (k, κ1, S) (nI made) (nI m) (nI (tot V)) v6 v7 (nI Hs.length) (nI j) (nI V.1.1) (nI a) (nI b) (nI hh) (nI V.2.1.length) (nI (V.2.2.2.2.1 + V.2.2.2.2.2.1 + V.2.2.2.2.2.2)) (nI V.2.2.2.2.1) sz un (nI (cntV V)) v21 v22 = k31 (k'', κ', S') (nI made') (nI (m + 5)) (nI (tot V')) (v6 + 1) := by
    intro κ1 v21 v22 l1 hws
    obtain ⟨md', V', Hs', S', k2, κ2, l2, i2, x2⟩ := t_264 (aa := aa) (k31 := k31) (κ := κ1) (v6 := v6) (m := m) hL hn hm hj ha hb hh8 (by omega) (hsz k hk) (hun k hk) hws hs
    exact ⟨md', V', Hs', S', k2, κ2, by omega, i2, x2⟩
  by_cases c1 : V.2.1.length = 1
  · obtain ⟨e, he⟩ : ∃ e, V.2.1 = [e] := List.length_eq_one_iff.mp c1
    have hg : V.2.1[0]? = some e := by rw [he]; rfl
    obtain ⟨wy, w1, w2⟩ := q_way hk he
    rw [if_pos (show nI V.2.1.length = (1 : Int32) by rw [c1]; rfl), gx_chk_t (by omega), show fL_holder k (0 : Int32) = _ from q_holder_t (a := 0) hk hg, gx_b_some]
    dsimp only
    rw [gx_chk_t (by omega), show fL_target k (0 : Int32) = _ from q_target_t (a := 0) hk hg, gx_b_some]
    dsimp only
    rw [gx_chk_t (by omega), w1, gx_b_some]
    unfold fL_law_233
    dsimp only
    rcases w2 with w2 | ⟨g1, g2, g3, d, g4, g5, g6, g7⟩
    · rw [if_pos w2]
      exact go _ _ _ (by omega) (Or.inl (by decide))
    · have hLt := (h.2.1.1.2.1 e.2.1 (hv_lt hw.1 g3)).1
      have hsv := (hw.2.2.2.2.2.1 e (by rw [he]; exact List.mem_cons_self)).2.2
      have hll := lea_le V.1.2.2.1 (t := e.1) (ch V.1.2.2.2.2 e.2.1) e.2.1 100
      rw [if_neg (show ¬ wy ≤ 0 by rw [g6]; exact nI_nle (by omega) (by omega)), gx_chk_t (by omega), show fL_holder k (0 : Int32) = _ from q_holder_t (a := 0) hk hg, gx_b_some]
      dsimp only
      rw [gx_chk_t (by omega), show fL_target k (0 : Int32) = _ from q_target_t (a := 0) hk hg, gx_b_some]
      dsimp only
      rw [gx_chk_t (by omega), q_greatestSeverity_t hk g2 g3 g1, gx_b_some]
      dsimp only
      rw [gx_chk_t (by omega), show fL_severity k (0 : Int32) = _ from q_severity_t (a := 0) hk hg, gx_b_some]
      refine go _ _ _ (by omega) ?_
      by_cases c2 : e.2.2 ≤ lea V.1.2.2.1 e.1 100 e.2.1 (ch V.1.2.2.2.2 e.2.1)
      · refine Or.inr ⟨e.1, e.2.1, e.2.2, d, he, g1, g3, fun x hx hin => Nat.le_trans c2 (lea_all hw.1 _ _ _ (ch_cX hw.1 e.2.1).1 x hx hin), g6, g5, g7⟩
      · refine Or.inl ?_
        have := pk_sneg (a := lea V.1.2.2.1 e.1 100 e.2.1 (ch V.1.2.2.2.2 e.2.1)) (b := e.2.2) (by omega) (by omega)
        exact this
  · rw [if_neg (show ¬ nI V.2.1.length = (1 : Int32) from fun q => c1 ((nI_eq (b := 1) (by omega) (by decide)).mp q))]
    unfold fL_law_233
    rw [if_pos (show (-1 : Int32) ≤ 0 by decide)]
    exact go _ _ _ (by omega) (Or.inl (by decide))
theorem t_83 {j : Nat} {v6 : Int32} {v7 : Int64} (hL : LI aa n made V Hs S k) (hn : n < 56) (hm : m + 5 < 1000) (hj : j < 42) (hκ : κ + 7100 ≤ 500000) (hs : SVp (V := V) aa v7) :
    ∃ made' V' Hs' S' k'' κ', κ' ≤ κ + 6740 ∧ LI aa (n + 1) made' V' Hs' S' k'' ∧ fL_law_83 aa k31 (k, κ, S) (nI made) (nI m) (nI (tot V)) v6 v7 (nI Hs.length) (nI j) = k31 (k'', κ', S') (nI made') (nI (m + 5)) (nI (tot V')) (v6 + 1) := by
  have h := hL.1
  have hk := KB_kq h
  have hw := h.2.1.1
  have hA := hw.1.2.1
  have hA1 := hw.1.1
  have hκ0 : κ ≤ 500000 := by omega
  have go : ∀ a, a < 100 → ∃ made' V' Hs' S' k'' κ', κ' ≤ κ + 6740 ∧ LI aa (n + 1) made' V' Hs' S' k'' ∧ fL_law_117 aa k31 (k, κ, S) (nI made) (nI m) (nI (tot V)) v6 v7 (nI Hs.length) (nI j) (nI V.1.1) (nI a) = k31 (k'', κ', S') (nI made') (nI (m + 5)) (nI (tot V')) (v6 + 1) := by
    intro a ha
    unfold fL_law_117
    dsimp only
    rw [show nI m + (2 : Int32) = nI (m + 2) from nI_add m 2, gx_chk_t ⟨hκ0, nI_pos (by omega), by decide⟩]
    by_cases c : xpick aa (nI (m + 2)) (3 : Int32) = 0
    · obtain ⟨b, hb1, hb2⟩ := xpick_in aa (nI (m + 2)) (b := V.1.1) (by omega) (by omega)
      rw [if_pos c, gx_chk_t ⟨hκ0, nI_pos (by omega), nI_ne0 (by omega) (by omega)⟩, hb2]
      exact t_145 hL hn hm hj ha (by omega) hκ hs
    · rw [if_neg c]
      exact t_145 (b := 0) hL hn hm hj ha (by omega) hκ hs
  unfold fL_law_83
  dsimp only
  rw [gx_chk_t hκ0, q_appointedCount hk, gx_b_some, show nI m + (1 : Int32) = nI (m + 1) from nI_add m 1]
  by_cases c : (v6 - v6 / (13 : Int32) * (13 : Int32)) = (12 : Int32)
  · obtain ⟨a, ha1, ha2⟩ := xpick_in aa (nI (m + 1)) (b := V.1.1 + 1) (by omega) (by omega)
    rw [if_pos c, nI_1, gx_chk_t ⟨hκ0, nI_pos (by omega), nI_ne0 (by omega) (by omega)⟩, ha2]
    exact go a (by omega)
  · obtain ⟨a, ha1, ha2⟩ := xpick_in aa (nI (m + 1)) (b := V.1.1) (by omega) (by omega)
    rw [if_neg c, Int32.add_zero, gx_chk_t ⟨hκ0, nI_pos (by omega), nI_ne0 (by omega) (by omega)⟩, ha2]
    exact go a (by omega)
end Round9
theorem nat_up {a b n : Nat} (h : a ≤ b + 200 + 6740) (h2 : b ≤ 3000 + 7000 * n) : a ≤ 3000 + 7000 * (n + 1) := by
  have e : 7000 * (n + 1) = 7000 * n + 7000 := Nat.mul_succ 7000 n
  rw [e]
  generalize 7000 * n = w at h2 ⊢
  refine Nat.le_trans h ?_
  rw [Nat.add_assoc b 200 6740, ← Nat.add_assoc 3000 w 7000]
  exact Nat.add_le_add h2 (Nat.le_of_ble_eq_true rfl)
theorem p_law {aa : gx_AA} : ∀ (d n fu κ made : Nat) (V : AN) (Hs : List AN) (S : Nat → Int64) (k : CS), n + d = 56 → d < fu → LI aa n made V Hs S k → κ ≤ 3000 + 7000 * n → ∃ k' κ' S', fL_law_31 aa fu (k, κ, S) (nI made) (nI (5 * n)) (nI (tot V)) (nI n) = some (1, (k', κ', S')) := by
  intro d
  induction d with
  | zero =>
    intro n fu κ made V Hs S k hn hfu hL hκ
    obtain ⟨f, rfl⟩ : ∃ f, fu = f + 1 := ⟨fu - 1, by omega⟩
    have e : n = 56 := hn
    obtain ⟨h, t0, md, hl, hsv, hs0⟩ := hL
    obtain ⟨k', κ', hx⟩ := p_isKept (aa := aa) h (by omega) hl hs0 hsv
    refine ⟨k', κ + 2200, S, ?_⟩
    rw [fL_law_31_s, e, if_pos (show (56 : Int32) ≤ nI 56 by decide), gx_chk_t (by show κ + 2200 ≤ 500000; omega), show fL_isKept aa ((k, κ, S).1, (k, κ, S).2.2) (nI made) = _ from hx, gx_b_some]
    dsimp only
    rw [gx_chk_t (by omega), gx_chk_t (Or.inr rfl)]
  | succ d ih =>
    intro n fu κ made V Hs S k hn hfu hL hκ
    obtain ⟨f, rfl⟩ : ∃ f, fu = f + 1 := ⟨fu - 1, by omega⟩
    have h := hL.1
    have hk := KB_kq h
    obtain ⟨v7, hs⟩ := sv_ex aa h.2.1.1
    have hs0 := hs
    obtain ⟨κs, hsum⟩ := hs
    have eu : fX8_undoCount k = some (nI Hs.length) := congrArg some h.2.2.1.1
    have go : ∀ j, j < 42 → ∃ k' κ' S', fL_law_83 aa (fL_law_31 aa f) (k, κ + 200, S) (nI made) (nI (5 * n)) (nI (tot V)) (nI n) v7 (nI Hs.length) (nI j) = some (1, (k', κ', S')) := by
      intro j hj
      obtain ⟨md', V', Hs', S', k2, κ2, l2, i2, x2⟩ := t_83 (k31 := fL_law_31 aa f) (κ := κ + 200) (j := j) (v6 := nI n) (v7 := v7) (m := 5 * n) hL (by omega) (by omega) hj (by omega) hs0
      rw [x2, nI_1, show 5 * n + 5 = 5 * (n + 1) by omega]
      exact ih (n + 1) f κ2 md' V' Hs' S' k2 (by omega) (by omega) i2 (nat_up l2 hκ)
    rw [fL_law_31_s, if_neg (show ¬ (56 : Int32) ≤ nI n from nI_ge (b := 56) (by omega) (by decide))]
    dsimp only
    rw [gx_chk_t (by omega), hsum k hk, gx_b_some]
    dsimp only
    rw [gx_chk_t (by omega), eu, gx_b_some]
    by_cases c6 : 6 ≤ n
    · rw [if_pos (show (6 : Int32) ≤ nI n from (nI_leI (a := 6) (by decide) (by omega)).mpr c6)]
      by_cases c9 : 9 ≤ n
      · obtain ⟨j, hj1, hj2⟩ := xpick_in aa (nI (5 * n)) (b := 42) (by decide) (by decide)
        rw [if_pos (show (9 : Int32) ≤ nI n from (nI_leI (a := 9) (by decide) (by omega)).mpr c9), gx_chk_t ⟨by omega, nI_pos (by omega), by decide⟩, show xpick aa (nI (5 * n)) (42 : Int32) = nI j from hj2]
        exact go j hj1
      · rw [if_neg (show ¬ (9 : Int32) ≤ nI n from nI_ge (b := 9) (by omega) (by decide))]
        exact go 16 (by omega)
    · rw [if_neg (show ¬ (6 : Int32) ≤ nI n from nI_ge (b := 6) (by omega) (by decide))]
      exact go 0 (by omega)
