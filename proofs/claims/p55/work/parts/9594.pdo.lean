/-! what does answers; a round of the law; the loop -/
def DnC (V : AN) (Hs : List AN) (r : Option (Int32 × LwS)) (Po : AN → Nat → Prop) : Prop :=
  (∃ v k' κ, r = some (v, (k', κ)) ∧ v ≤ -70 ∧ KB V Hs [] k') ∨ (∃ V' a k' κ, r = some (nI a, (k', κ)) ∧ a < 2 ^ 31 ∧ KB V' (hA Hs V) [] k' ∧ Po V' a)
theorem dn_of {V : AN} {Hs : List AN} {r : Option (Int32 × CS)} {Po : AN → Nat → Prop} {c1 c2 : Prop} [Decidable c1] [Decidable c2] {κ : Nat} (h1 : c1) (h2 : c2) (h : RsC V Hs r Po) : DnC V Hs (gx_chk c1 (gx_b r (fun r320 => gx_chk c2 (some (r320.1, (r320.2, κ)))))) Po := by
  rw [gx_chk_t h1]
  rcases h with ⟨v, k', e1, e2, e3⟩ | ⟨V', a, k', e1, e2, e3, e4⟩
  · refine Or.inl ⟨v, k', κ, ?_, e2, e3⟩
    rw [e1, gx_b_some, gx_chk_t h2]
  · refine Or.inr ⟨V', a, k', κ, ?_, e2, e3, e4⟩
    rw [e1, gx_b_some, gx_chk_t h2]
/-- what a call of this kind has done -/
def PoK (V : AN) (j a b hh : Nat) (V' : AN) (r : Nat) : Prop :=
  if j ≤ 6 then PoAdd V (nI a) V' r else if j ≤ 8 then PoRaise V (nI a) V' r else if j ≤ 13 then PoMove V (nI a) (nI b) V' r else if j ≤ 15 then PoFire V (nI a) V' r else if j ≤ 26 then PoSend V (nI b) (nI a) V' r else if j ≤ 30 then PoBook V V' r else if j ≤ 39 then PoPass V (nI hh) V' r else tot V' = tot V
section Does9
variable {V : AN} {Hs : List AN} {k : CS} {aa : gx_AA}
theorem dn_252 (h : KB V Hs [] k) {a : Nat} {κ : Nat} (hκ : κ + 1 ≤ 900) (v7 v8 v9 : Int32) : DnC V Hs (fL_does_252 aa (k, κ) (nI a) v7 v8 v9) (PoAdd V (nI a)) := by
  have hκ2 : κ ≤ 900 := by omega
  unfold fL_does_252
  by_cases c7 : (v7 - v7 / (7 : Int32) * (7 : Int32)) = 0
  · rw [if_pos c7]
    by_cases c29 : (v7 - v7 / (29 : Int32) * (29 : Int32)) = 0
    · rw [if_pos c29]
      exact dn_of hκ hκ (cl_appoint h _ _ _)
    rw [if_neg c29]
    by_cases c2 : (v7 - v7 / (2 : Int32) * (2 : Int32)) = 0
    · rw [if_pos c2]
      exact dn_of hκ hκ (cl_appoint h _ _ _)
    rw [if_neg c2]
    exact dn_of hκ hκ (cl_appoint h _ _ _)
  · rw [if_neg c7, gx_chk_t (show (k, κ).2 ≤ 900 from hκ2)]
    by_cases c29 : (v7 - v7 / (29 : Int32) * (29 : Int32)) = 0
    · rw [if_pos c29]
      exact dn_of hκ hκ (cl_appoint h _ _ _)
    rw [if_neg c29]
    by_cases c2 : (v7 - v7 / (2 : Int32) * (2 : Int32)) = 0
    · rw [if_pos c2]
      exact dn_of hκ hκ (cl_appoint h _ _ _)
    rw [if_neg c2]
    exact dn_of hκ hκ (cl_appoint h _ _ _)
theorem dn_521 (h : KB V Hs [] k) {a b : Nat} {κ : Nat} (hκ : κ + 1 ≤ 900) (v7 v8 : Int32) : DnC V Hs (fL_does_521 aa (k, κ) (nI a) (nI b) v7 v8) (PoSend V (nI b) (nI a)) := by
  unfold fL_does_521
  by_cases c29 : (v7 - v7 / (29 : Int32) * (29 : Int32)) = 0
  · rw [if_pos c29]
    exact dn_of hκ hκ (cl_issue h _ _ _)
  rw [if_neg c29]
  by_cases c2 : (v7 - v7 / (2 : Int32) * (2 : Int32)) = 0
  · rw [if_pos c2]
    exact dn_of hκ hκ (cl_issue h _ _ _)
  rw [if_neg c2]
  exact dn_of hκ hκ (cl_issue h _ _ _)
theorem w_second {x : Nat} (hx : x < 1000) : ((((97 : Int32) + ((nI x / (5 : Int32)) - (nI x / (5 : Int32)) / (5 : Int32) * (5 : Int32))).toUInt32 % 65536).toInt32) = nI (97 + x / 5 % 5) := by
  have h1 : nI x / (5 : Int32) = nI (x / 5) := pk_div (d := 5) (by omega) (by decide) (by decide)
  have h2 : nI (x / 5) - nI (x / 5) / (5 : Int32) * (5 : Int32) = nI (x / 5 % 5) := pk_rem (d := 5) (by omega) (by decide) (by decide)
  have h3 : (97 : Int32) + nI (x / 5 % 5) = nI (97 + x / 5 % 5) := nI_add 97 _
  rw [h1, h2, h3]
  exact (chr_s _ (by omega)).2
theorem dn_377 (h : KB V Hs [] k) (htt : tot V < 2 ^ 31) {a v x : Nat} (ha : a < 100) (hv9 : v < 1000) (hx : x < 1000) {κ : Nat} (hκ : κ + 800 ≤ 900) : DnC V Hs (fL_does_377 aa (k, κ) (nI a) (nI v) (nI x) (nI (97 + x / 5 % 5))) (fun V' _ => tot V' = tot V) := by
  unfold fL_does_377
  have hok : tx_ok (nI a) (nI v) (nI x) (nI (97 + x / 5 % 5)) := by
    unfold tx_ok
    rw [nI_clamp (by omega), nI_clamp (by omega), nI_clamp (by omega), nI_clamp (by omega)]
    exact ⟨nI_pos (by omega), ha, nI_pos (by omega), hv9, nI_pos (by omega), hx, nI_pos (by omega), by omega⟩
  rw [gx_chk_t ⟨hκ, hok⟩]
  have e : tx_of (nI a) (nI v) (nI x) (nI (97 + x / 5 % 5)) = tx_n a v x (97 + x / 5 % 5) := by
    unfold tx_of
    rw [nI_clamp (by omega), nI_clamp (by omega), nI_clamp (by omega), nI_clamp (by omega)]
  rw [e]
  rcases z_runs (v := v) (x := x) (s := 97 + x / 5 % 5) h ha (by omega) htt with ⟨r, k', e1, e2, e3⟩ | ⟨V', r, k', e1, e2, e3, e4⟩
  · refine Or.inl ⟨r, k', κ + 800, ?_, e2, e3⟩
    rw [show fL_runs (k, κ).1 _ = _ from e1, gx_b_some]
  · refine Or.inr ⟨V', r, k', κ + 800, ?_, e2, e3, e4⟩
    rw [show fL_runs (k, κ).1 _ = _ from e1, gx_b_some]
theorem dn_55 (h : KB V Hs [] k) (htt : tot V < 2 ^ 31) {j a b hh v x : Nat} (hj : j < 42) (ha : a < 100) (hv9 : v < 1000) (hx : x < 1000) {κ : Nat} (hκ : κ + 800 ≤ 900) (v9 v10 : Int32) : DnC V Hs (fL_does_55 aa (k, κ) (nI j) (nI a) (nI b) (nI hh) (nI v) (nI x) v9 v10) (PoK V j a b hh) := by
  have hκ1 : κ + 1 ≤ 900 := by omega
  unfold fL_does_55 PoK
  rw [gx_chk_t (nI_in (by omega) (by decide)), nI_clamp (by omega), w_second hx]
  by_cases c1 : j ≤ 6
  · simp only [if_pos c1]
    exact dn_252 h hκ1 _ _ _
  simp only [if_neg c1]
  by_cases c2 : j ≤ 8
  · simp only [if_pos c2]
    exact dn_of hκ1 hκ1 (cl_promote h _)
  simp only [if_neg c2]
  by_cases c3 : j ≤ 13
  · simp only [if_pos c3]
    exact dn_of hκ1 hκ1 (cl_transfer h _ _)
  simp only [if_neg c3]
  by_cases c4 : j ≤ 15
  · simp only [if_pos c4]
    exact dn_of hκ1 hκ1 (cl_dismiss h _)
  simp only [if_neg c4]
  by_cases c5 : j ≤ 26
  · simp only [if_pos c5]
    exact dn_521 h hκ1 _ _
  simp only [if_neg c5]
  by_cases c6 : j ≤ 29
  · have c6' : j ≤ 30 := by omega
    simp only [if_pos c6, if_pos c6']
    exact dn_of hκ1 hκ1 (cl_define h _ _ _)
  simp only [if_neg c6]
  by_cases c7 : j ≤ 30
  · simp only [if_pos c7]
    exact dn_of hκ1 hκ1 (cl_erase h _ _)
  simp only [if_neg c7]
  by_cases c8 : j ≤ 39
  · simp only [if_pos c8]
    exact dn_of hκ1 hκ1 (cl_passHours h htt _)
  simp only [if_neg c8]
  exact dn_377 h htt ha hv9 hx hκ
theorem p_does (h : KB V Hs [] k) (htt : tot V < 2 ^ 31) {m j a b hh : Nat} (hm : m < 1000) (hj : j < 42) (ha : a < 100) : DnC V Hs (fL_does aa k (nI m) (nI j) (nI a) (nI b) (nI hh)) (PoK V j a b hh) := by
  obtain ⟨v, hv1, hv2⟩ := xpick_in aa (nI (m + 4)) (b := 1000) (by decide) (by decide)
  obtain ⟨x, hx1, hx2⟩ := xpick_in aa (nI (m + 3)) (b := 1000) (by decide) (by decide)
  obtain ⟨rk, hr⟩ := u_rank (V := V) (nI a)
  unfold fL_does
  rw [show nI m + (4 : Int32) = nI (m + 4) from nI_add m 4, show nI m + (3 : Int32) = nI (m + 3) from nI_add m 3, gx_chk_t ⟨by decide, nI_pos (by omega), by decide⟩, gx_chk_t ⟨by decide, nI_pos (by omega), by decide⟩, gx_chk_t (by decide), hr k (KB_kq h), gx_b_some, show xpick aa (nI (m + 4)) (1000 : Int32) = nI v from hv2, show xpick aa (nI (m + 3)) (1000 : Int32) = nI x from hx2]
  by_cases c : (nI v - nI v / (31 : Int32) * (31 : Int32)) = 0
  · rw [if_pos c]
    exact dn_55 h htt hj ha hv1 hx1 (by decide) _ _
  · rw [if_neg c]
    exact dn_55 h htt hj ha hv1 hx1 (by decide) _ _
end Does9
theorem one_and : (1 : Int32) &&& 1 = 1 := by decide
section Stage9
variable {V : AN} {k : CS} {aa : gx_AA} {S : Nat → Int64} {k31 : LwT → Int32 → Int32 → Int32 → Int32 → Option (Int32 × LwT)} {κ : Nat}
theorem jlt {j b : Nat} (hj : j < 42) (hb : b < 2 ^ 31) : nI j < nI b ↔ j < b := nI_ltI (by omega) hb
theorem jgt {j b : Nat} (hj : j < 42) (hb : b < 2 ^ 31) : nI b < nI j ↔ b < j := nI_ltI hb (by omega)
theorem jle {j b : Nat} (hj : j < 42) (hb : b < 2 ^ 31) : nI j ≤ nI b ↔ j ≤ b := nI_leI (by omega) hb
theorem jge {j b : Nat} (hj : j < 42) (hb : b < 2 ^ 31) : nI b ≤ nI j ↔ b ≤ j := nI_leI hb (by omega)
theorem t_295a {j : Nat} (hj : j < 42) {v3 v4 v5 v6 v9 v11 v12 v13 v14 v15 v16 v17 v18 v19 v20 v21 v22 v23 v24 : Int32} {v7 : Int64} (hyp : v24 = 0 ∨ j ≤ 15 ∨ 27 ≤ j) : fL_law_295 aa k31 (k, κ, S) v3 v4 v5 v6 v7 v9 (nI j) v11 v12 v13 v14 v15 v16 v17 v18 v19 v20 v21 v22 v23 v24 = fL_law_324 aa k31 (k, κ, S) v3 v4 v5 v6 v7 v9 (nI j) v11 v12 v13 v14 v15 v16 v17 v18 v19 v20 v21 v22 v23 v24 := by
  unfold fL_law_295
  rw [Int32.add_zero]
  by_cases c0 : v24 = 0
  · rw [if_pos c0]
  rw [if_neg c0]
  by_cases c1 : j ≤ 15
  · rw [if_pos (show nI j ≤ (15 : Int32) from (jle (b := 15) hj (by decide)).mpr c1)]
  rw [if_neg (show ¬ nI j ≤ (15 : Int32) from fun q => c1 ((jle (b := 15) hj (by decide)).mp q)), if_pos (show (27 : Int32) ≤ nI j from (jge (b := 27) hj (by decide)).mpr ((hyp.resolve_left c0).resolve_left c1))]
theorem t_295b {j : Nat} (hj : j < 42) {v3 v4 v5 v6 v9 v11 v12 v13 v14 v15 v16 v17 v18 v19 v20 v21 v22 v23 v24 : Int32} {v7 : Int64} (c0 : ¬ v24 = 0) (c1 : ¬ j ≤ 15) (c2 : ¬ 27 ≤ j) : fL_law_295 aa k31 (k, κ, S) v3 v4 v5 v6 v7 v9 (nI j) v11 v12 v13 v14 v15 v16 v17 v18 v19 v20 v21 v22 v23 v24 = fL_law_324 aa k31 (k, κ, S) v3 v4 (v5 + 1) v6 v7 v9 (nI j) v11 v12 v13 v14 v15 v16 v17 v18 v19 v20 v21 v22 v23 v24 := by
  unfold fL_law_295
  rw [if_neg c0, if_neg (show ¬ nI j ≤ (15 : Int32) from fun q => c1 ((jle (b := 15) hj (by decide)).mp q)), if_neg (show ¬ (27 : Int32) ≤ nI j from fun q => c2 ((jge (b := 27) hj (by decide)).mp q))]
theorem t_324 (h : kq V k) {v3 v4 v5 v6 v9 v11 v12 v13 v14 v15 v16 v17 v18 v19 v20 v21 v22 v23 v24 : Int32} {v7 : Int64} {v10 : Int32} (hκ : κ ≤ 500000) (hv5 : v5 = nI (tot V)) : fL_law_324 aa k31 (k, κ, S) v3 v4 v5 v6 v7 v9 v10 v11 v12 v13 v14 v15 v16 v17 v18 v19 v20 v21 v22 v23 v24 = fL_law_359 aa k31 (k, κ, S) v3 v4 v5 v6 v7 v9 v10 v11 v12 v13 v14 v15 v16 v17 v18 v19 v20 v21 v22 v23 v24 (nI (V.2.2.2.2.1 + V.2.2.2.2.2.1 + V.2.2.2.2.2.2)) 1 := by
  unfold fL_law_324
  dsimp only
  rw [gx_chk_t hκ, q_executedOrders h, gx_b_some, gx_chk_t hκ, q_refusedOrders h, gx_b_some, gx_chk_t hκ, q_lostOrders h, gx_b_some, gx_chk_t hκ, q_orderCount h, gx_b_some, nI_add, nI_add, nI_add, if_pos]
  rw [hv5]
  unfold tot
  exact congrArg nI (Nat.add_comm _ _)
theorem t_359 {j : Nat} (hj : j < 42) {v3 v4 v5 v6 v9 v11 v12 v13 v14 v15 v16 v17 v18 v19 v20 v21 v22 v23 v24 v25 : Int32} {v7 : Int64} (hκ : κ + 2 ≤ 500000) (hyp : v24 = 0 ∨ 6 < j ∨ (v23 = v11 ∧ fX8_officerCount k = some (v20 + 1) ∧ fL_superior k v23 = some (v12, k) ∧ fL_commandSize k v23 = some (1, k))) : ∃ κ', κ' ≤ κ + 2 ∧ fL_law_359 aa k31 (k, κ, S) v3 v4 v5 v6 v7 v9 (nI j) v11 v12 v13 v14 v15 v16 v17 v18 v19 v20 v21 v22 v23 v24 v25 1 = fL_law_420 aa k31 (k, κ', S) v3 v4 v5 v6 v7 v9 (nI j) v12 v13 v14 v15 v16 v17 v18 v19 v20 v21 v22 v23 v24 v25 1 := by
  unfold fL_law_359
  rw [one_and]
  by_cases c0 : v24 = 0
  · rw [if_pos c0]
    exact ⟨κ, by omega, rfl⟩
  rw [if_neg c0]
  have hyp := hyp.resolve_left c0
  by_cases c1 : 6 < j
  · rw [if_pos (show (6 : Int32) < nI j from (jgt (b := 6) hj (by decide)).mpr c1)]
    exact ⟨κ, by omega, rfl⟩
  rw [if_neg (show ¬ (6 : Int32) < nI j from fun q => c1 ((jgt (b := 6) hj (by decide)).mp q))]
  obtain ⟨y1, y2, y3, y4⟩ := hyp.resolve_left c1
  dsimp only
  rw [if_pos y1, gx_chk_t (by omega), y2, gx_b_some, if_pos rfl, gx_chk_t (by omega), y3, gx_b_some]
  dsimp only
  rw [if_pos rfl, gx_chk_t (by omega), y4, gx_b_some]
  dsimp only
  rw [if_pos rfl]
  exact ⟨_, by omega, rfl⟩
theorem t_420 {j : Nat} (hj : j < 42) {v3 v4 v5 v6 v9 v12 v13 v14 v15 v16 v17 v18 v19 v20 v21 v22 v23 v24 v25 : Int32} {v7 : Int64} (hκ : κ + 1 ≤ 500000) (hyp : v24 = 0 ∨ j < 7 ∨ 8 < j ∨ (fL_rank k v12 = some (v23, k))) : ∃ κ', κ' ≤ κ + 1 ∧ fL_law_420 aa k31 (k, κ, S) v3 v4 v5 v6 v7 v9 (nI j) v12 v13 v14 v15 v16 v17 v18 v19 v20 v21 v22 v23 v24 v25 1 = fL_law_460 aa k31 (k, κ', S) v3 v4 v5 v6 v7 v9 (nI j) v12 v13 v14 v15 v16 v17 v18 v19 v20 v21 v22 v23 v24 v25 1 := by
  unfold fL_law_420
  rw [one_and]
  by_cases c0 : v24 = 0
  · rw [if_pos c0]
    exact ⟨κ, by omega, rfl⟩
  rw [if_neg c0]
  have hyp := hyp.resolve_left c0
  by_cases c1 : j < 7
  · rw [if_pos (show nI j < (7 : Int32) from (jlt (b := 7) hj (by decide)).mpr c1)]
    exact ⟨κ, by omega, rfl⟩
  rw [if_neg (show ¬ nI j < (7 : Int32) from fun q => c1 ((jlt (b := 7) hj (by decide)).mp q))]
  have hyp := hyp.resolve_left c1
  by_cases c2 : 8 < j
  · rw [if_pos (show (8 : Int32) < nI j from (jgt (b := 8) hj (by decide)).mpr c2)]
    exact ⟨κ, by omega, rfl⟩
  rw [if_neg (show ¬ (8 : Int32) < nI j from fun q => c2 ((jgt (b := 8) hj (by decide)).mp q))]
  have y1 := hyp.resolve_left c2
  dsimp only
  rw [gx_chk_t (by omega), y1, gx_b_some]
  dsimp only
  rw [if_pos rfl]
  exact ⟨_, by omega, rfl⟩
theorem t_460 {j : Nat} (hj : j < 42) {v3 v4 v5 v6 v9 v12 v13 v14 v15 v16 v17 v18 v19 v20 v21 v22 v23 v24 v25 : Int32} {v7 : Int64} (hκ : κ + 3 ≤ 500000) (hyp : v24 = 0 ∨ j < 9 ∨ 13 < j ∨ (fL_superior k v12 = some (v13, k) ∧ fL_commandSize k v12 = some (v18, k) ∧ fL_commandSize k v13 = some (v23, k))) : ∃ κ', κ' ≤ κ + 3 ∧ fL_law_460 aa k31 (k, κ, S) v3 v4 v5 v6 v7 v9 (nI j) v12 v13 v14 v15 v16 v17 v18 v19 v20 v21 v22 v23 v24 v25 1 = fL_law_522 aa k31 (k, κ', S) v3 v4 v5 v6 v7 v9 (nI j) v12 v13 v14 v15 v16 v17 v19 v20 v21 v22 v23 v24 v25 1 := by
  unfold fL_law_460
  rw [one_and]
  by_cases c0 : v24 = 0
  · rw [if_pos c0]
    exact ⟨κ, by omega, rfl⟩
  rw [if_neg c0]
  have hyp := hyp.resolve_left c0
  by_cases c1 : j < 9
  · rw [if_pos (show nI j < (9 : Int32) from (jlt (b := 9) hj (by decide)).mpr c1)]
    exact ⟨κ, by omega, rfl⟩
  rw [if_neg (show ¬ nI j < (9 : Int32) from fun q => c1 ((jlt (b := 9) hj (by decide)).mp q))]
  have hyp := hyp.resolve_left c1
  by_cases c2 : 13 < j
  · rw [if_pos (show (13 : Int32) < nI j from (jgt (b := 13) hj (by decide)).mpr c2)]
    exact ⟨κ, by omega, rfl⟩
  rw [if_neg (show ¬ (13 : Int32) < nI j from fun q => c2 ((jgt (b := 13) hj (by decide)).mp q))]
  obtain ⟨y1, y2, y3⟩ := hyp.resolve_left c2
  dsimp only
  rw [gx_chk_t (by omega), y1, gx_b_some]
  dsimp only
  rw [if_pos rfl, gx_chk_t (by omega), y2, gx_b_some]
  dsimp only
  rw [if_pos rfl, gx_chk_t (by omega), y3, gx_b_some]
  dsimp only
  rw [if_pos rfl]
  exact ⟨_, by omega, rfl⟩
theorem t_522 {j : Nat} (hj : j < 42) {v3 v4 v5 v6 v9 v12 v13 v14 v15 v16 v17 v19 v20 v21 v22 v23 v24 v25 : Int32} {v7 : Int64} (hκ : κ + 1 ≤ 500000) (hyp : v24 = 0 ∨ j < 14 ∨ 15 < j ∨ (v23 = v19 ∧ fX8_officerCount k = some (v20 - 1) ∧ fL_rank k v12 = some (-77, k) ∧ fX8_isInNavy k v12 = some 0)) : ∃ κ', κ' ≤ κ + 1 ∧ fL_law_522 aa k31 (k, κ, S) v3 v4 v5 v6 v7 v9 (nI j) v12 v13 v14 v15 v16 v17 v19 v20 v21 v22 v23 v24 v25 1 = fL_law_589 aa k31 (k, κ', S) v3 v4 v5 v6 v7 v9 (nI j) v12 v13 v14 v15 v16 v17 v21 v22 v23 v24 v25 1 := by
  unfold fL_law_522
  rw [one_and]
  by_cases c0 : v24 = 0
  · rw [if_pos c0]
    exact ⟨κ, by omega, rfl⟩
  rw [if_neg c0]
  have hyp := hyp.resolve_left c0
  by_cases c1 : j < 14
  · rw [if_pos (show nI j < (14 : Int32) from (jlt (b := 14) hj (by decide)).mpr c1)]
    exact ⟨κ, by omega, rfl⟩
  rw [if_neg (show ¬ nI j < (14 : Int32) from fun q => c1 ((jlt (b := 14) hj (by decide)).mp q))]
  have hyp := hyp.resolve_left c1
  by_cases c2 : 15 < j
  · rw [if_pos (show (15 : Int32) < nI j from (jgt (b := 15) hj (by decide)).mpr c2)]
    exact ⟨κ, by omega, rfl⟩
  rw [if_neg (show ¬ (15 : Int32) < nI j from fun q => c2 ((jgt (b := 15) hj (by decide)).mp q))]
  obtain ⟨y1, y2, y3, y4⟩ := hyp.resolve_left c2
  dsimp only
  rw [if_pos y1, gx_chk_t (by omega), y2, gx_b_some, if_pos rfl, gx_chk_t (by omega), y3, gx_b_some]
  dsimp only
  rw [if_pos rfl, gx_chk_t (by omega), y4, gx_b_some, if_pos rfl]
  exact ⟨_, by omega, rfl⟩
theorem t_589 {j : Nat} (hj : j < 42) {v3 v4 v5 v6 v9 v12 v13 v14 v15 v16 v17 v21 v22 v23 v24 v25 : Int32} {v7 : Int64} (hκ : κ + 2 ≤ 500000) (hyp : v24 = 0 ∨ j < 16 ∨ 26 < j ∨ (v23 = v15 ∧ fL_holder k v23 = some (v13, k) ∧ fL_target k v23 = some (v12, k))) : ∃ κ', κ' ≤ κ + 2 ∧ fL_law_589 aa k31 (k, κ, S) v3 v4 v5 v6 v7 v9 (nI j) v12 v13 v14 v15 v16 v17 v21 v22 v23 v24 v25 1 = fL_law_647 aa k31 (k, κ', S) v3 v4 v5 v6 v7 v9 (nI j) v14 v15 v16 v17 v21 v22 v23 v24 v25 1 := by
  unfold fL_law_589
  rw [one_and]
  by_cases c0 : v24 = 0
  · rw [if_pos c0]
    exact ⟨κ, by omega, rfl⟩
  rw [if_neg c0]
  have hyp := hyp.resolve_left c0
  by_cases c1 : j < 16
  · rw [if_pos (show nI j < (16 : Int32) from (jlt (b := 16) hj (by decide)).mpr c1)]
    exact ⟨κ, by omega, rfl⟩
  rw [if_neg (show ¬ nI j < (16 : Int32) from fun q => c1 ((jlt (b := 16) hj (by decide)).mp q))]
  have hyp := hyp.resolve_left c1
  by_cases c2 : 26 < j
  · rw [if_pos (show (26 : Int32) < nI j from (jgt (b := 26) hj (by decide)).mpr c2)]
    exact ⟨κ, by omega, rfl⟩
  rw [if_neg (show ¬ (26 : Int32) < nI j from fun q => c2 ((jgt (b := 26) hj (by decide)).mp q))]
  obtain ⟨y1, y2, y3⟩ := hyp.resolve_left c2
  dsimp only
  rw [if_pos y1, gx_chk_t (by omega), y2, gx_b_some]
  dsimp only
  rw [if_pos rfl, gx_chk_t (by omega), y3, gx_b_some]
  dsimp only
  rw [if_pos rfl]
  exact ⟨_, by omega, rfl⟩
/-- a call that has let hours pass -/
def psd (k : CS) (v14 v15 v16 v17 v21 v22 v23 v25 : Int32) : Prop := fX8_executedOrders k = some (v17 + v23) ∧ fX8_orderCount k = some (v15 - (v25 - v16)) ∧ (v22 < 0 ∨ (v14 < v21 ∧ v23 = 0 ∧ fX8_orderCount k = some 1 ∧ ∃ p q, fL_holder k 0 = some (p, k) ∧ fL_target k 0 = some (q, k) ∧ fL_hoursFor k p q = some (v21 - v14, k)) ∨ (¬ v14 < v21 ∧ v23 = 1))
theorem t_647 {j : Nat} (hj : j < 42) {v3 v4 v5 v6 v9 v14 v15 v16 v17 v21 v22 v23 v24 v25 : Int32} {v7 : Int64} (hκ : κ + 3 ≤ 500000) (hyp : v24 = 0 ∨ j ≤ 30 ∨ 40 ≤ j ∨ psd k v14 v15 v16 v17 v21 v22 v23 v25) : ∃ κ', κ' ≤ κ + 3 ∧ fL_law_647 aa k31 (k, κ, S) v3 v4 v5 v6 v7 v9 (nI j) v14 v15 v16 v17 v21 v22 v23 v24 v25 1 = fL_law_786 aa k31 (k, κ', S) v3 v4 v5 v6 v7 v9 v24 1 := by
  have k0 : fL_law_670 aa k31 (k, κ, S) v3 v4 v5 v6 v7 v9 v14 v15 v16 v17 v21 v22 v23 v24 v25 1 = fL_law_786 aa k31 (k, κ, S) v3 v4 v5 v6 v7 v9 v24 1 := by
    unfold fL_law_670 fL_law_673
    rw [if_pos rfl, one_and]
    unfold fL_law_715
    rw [if_pos rfl, one_and]
  unfold fL_law_647
  by_cases c0 : v24 = 0
  · rw [if_pos c0]
    exact ⟨κ, by omega, k0⟩
  rw [if_neg c0]
  have hyp := hyp.resolve_left c0
  by_cases c1 : j ≤ 30
  · rw [if_pos (show nI j ≤ (30 : Int32) from (jle (b := 30) hj (by decide)).mpr c1)]
    exact ⟨κ, by omega, k0⟩
  rw [if_neg (show ¬ nI j ≤ (30 : Int32) from fun q => c1 ((jle (b := 30) hj (by decide)).mp q))]
  have hyp := hyp.resolve_left c1
  by_cases c2 : 40 ≤ j
  · rw [if_pos (show (40 : Int32) ≤ nI j from (jge (b := 40) hj (by decide)).mpr c2)]
    exact ⟨κ, by omega, k0⟩
  rw [if_neg (show ¬ (40 : Int32) ≤ nI j from fun q => c2 ((jge (b := 40) hj (by decide)).mp q))]
  obtain ⟨y1, y2, y3⟩ := hyp.resolve_left c2
  have hκ0 : κ ≤ 500000 := by omega
  unfold fL_law_673
  dsimp only
  rw [if_neg one0, gx_chk_t hκ0, y1, gx_b_some, if_pos rfl, gx_chk_t hκ0, y2, gx_b_some, if_pos rfl, one_and]
  unfold fL_law_715
  rw [if_neg one0, one_and]
  by_cases c3 : v22 < 0
  · rw [if_pos c3]
    exact ⟨κ, by omega, rfl⟩
  rw [if_neg c3]
  rcases y3.resolve_left c3 with ⟨z1, z2, z3, p, q, z4, z5, z6⟩ | ⟨z1, z2⟩
  · dsimp only
    rw [if_pos z1, if_pos z2, gx_chk_t hκ0, z3, gx_b_some, if_pos rfl, gx_chk_t (by omega), z4, gx_b_some]
    dsimp only
    rw [gx_chk_t (by omega), z5, gx_b_some]
    dsimp only
    rw [gx_chk_t (by omega), z6, gx_b_some]
    dsimp only
    rw [if_pos rfl]
    exact ⟨_, by omega, rfl⟩
  · rw [if_neg z1, if_pos z2]
    exact ⟨κ, by omega, rfl⟩
theorem t_786 {v3 v5 v6 v9 v24 : Int32} {v7 : Int64} (h : kq V k) (h9 : V.1.2.1 0 = 9) (hE : wE V) (ht : tot V ≤ 60) {m : Nat} (hm : m + 5 < 1000) (hκ : κ + 5600 ≤ 500000) : ∃ τ, fL_law_786 aa k31 (k, κ, S) v3 (nI m) v5 v6 v7 v9 v24 1 = (if v24 = 0 then (gx_chk ((κ + 5600) + 200 ≤ 500000) (gx_b (fL_sum aa (kO k τ)) (fun r825 => (if (lg_cmp r825.1 v7) = 0 then (gx_chk (((κ + 5600) + 200) ≤ 500000) (gx_b (fX8_undoCount r825.2.1) (fun r835 => (if r835 = v9 then (k31 (r825.2.1, (κ + 5600) + 200, S) v3 (nI (m + 5)) v5 (v6 + 1)) else (gx_chk (((κ + 5600) + 200) ≤ 500000) (some ((0 : Int32), (r825.2.1, (κ + 5600) + 200, S)))))))) else (gx_chk (((κ + 5600) + 200) ≤ 500000) (some ((0 : Int32), (r825.2.1, (κ + 5600) + 200, S)))))))) else (gx_chk ((κ + 5600) + 200 ≤ 500000) (gx_b (fL_sum aa (kO k τ)) (fun r851 => (gx_chk (gx_in (v3 + 1) 70) (k31 (r851.2.1, ((κ + 5600) + 200), vp_updL S (v3 + 1).toNatClampNeg r851.1) (v3 + 1) (nI (m + 5)) v5 (v6 + 1))))))) := by
  unfold fL_law_786
  rw [if_neg one0, show nI m + (5 : Int32) = nI (m + 5) from nI_add m 5]
  by_cases c : (v6 - v6 / (4 : Int32) * (4 : Int32)) = (3 : Int32)
  · obtain ⟨τ, κ2, e⟩ := p_isWhole (aa := aa) h h9 hE ht (1 : Int32) hm
    refine ⟨τ, ?_⟩
    rw [if_pos c]
    dsimp only
    rw [gx_chk_t hκ, e, gx_b_some, if_neg (show ¬ ((1 : Int32), (kO k τ, κ2)).1 = 0 from one0)]
  · obtain ⟨τ, κ2, e⟩ := p_isWhole (aa := aa) h h9 hE ht (0 : Int32) hm
    refine ⟨τ, ?_⟩
    rw [if_neg c]
    dsimp only
    rw [gx_chk_t hκ, e, gx_b_some, if_neg (show ¬ ((1 : Int32), (kO k τ, κ2)).1 = 0 from one0)]
theorem t_786r {v3 v5 v6 : Int32} {v7 : Int64} {Hs : List AN} (h : KB V Hs [] k) (ht : tot V ≤ 60) (hs : SVp (V := V) aa v7) {m : Nat} (hm : m + 5 < 1000) (hκ : κ + 5800 ≤ 500000) : ∃ τ, fL_law_786 aa k31 (k, κ, S) v3 (nI m) v5 v6 v7 (nI Hs.length) 0 1 = k31 (kO k τ, κ + 5600 + 200, S) v3 (nI (m + 5)) v5 (v6 + 1) := by
  obtain ⟨κ2, hsum⟩ := hs
  obtain ⟨τ, e⟩ := t_786 (aa := aa) (S := S) (k31 := k31) (κ := κ) (v3 := v3) (v5 := v5) (v6 := v6) (v9 := nI Hs.length) (v24 := 0) (v7 := v7) (KB_kq h) h.2.1.2.2 h.2.1.2.1 ht hm (by omega)
  have eu : fX8_undoCount (kO k τ) = some (nI Hs.length) := congrArg some h.2.2.1.1
  refine ⟨τ, ?_⟩
  rw [e, if_pos rfl, gx_chk_t (by omega), hsum (kO k τ) (kq_O (KB_kq h)), gx_b_some]
  dsimp only
  rw [if_pos ((lg_cmp_eq _ _).mpr rfl), gx_chk_t (by omega), eu, gx_b_some, if_pos rfl]
theorem t_786d {v5 v6 v9 v24 : Int32} {v7 : Int64} {Hs : List AN} (h : KB V Hs [] k) (ht : tot V ≤ 60) (h24 : ¬ v24 = 0) {m made : Nat} (hmd : made < 60) (hm : m + 5 < 1000) (hκ : κ + 5800 ≤ 500000) : ∃ τ v, SVp (V := V) aa v ∧ fL_law_786 aa k31 (k, κ, S) (nI made) (nI m) v5 v6 v7 v9 v24 1 = k31 (kO k τ, κ + 5600 + 200, vp_updL S (made + 1) v) (nI (made + 1)) (nI (m + 5)) v5 (v6 + 1) := by
  obtain ⟨v, hs⟩ := sv_ex aa h.2.1.1
  have hs0 := hs
  obtain ⟨κ2, hsum⟩ := hs
  obtain ⟨τ, e⟩ := t_786 (aa := aa) (S := S) (k31 := k31) (κ := κ) (v3 := nI made) (v5 := v5) (v6 := v6) (v9 := v9) (v24 := v24) (v7 := v7) (KB_kq h) h.2.1.2.2 h.2.1.2.1 ht hm (by omega)
  refine ⟨τ, v, hs0, ?_⟩
  rw [e, if_neg h24, gx_chk_t (by omega), hsum (kO k τ) (kq_O (KB_kq h)), gx_b_some]
  dsimp only
  rw [nI_1, gx_chk_t (nI_in (by omega) (by decide)), nI_clamp (by omega)]
end Stage9
