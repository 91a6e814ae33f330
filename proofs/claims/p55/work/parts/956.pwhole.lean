/-! isWhole -/
theorem u_nI (y : UInt32) : y.toInt32 = nI y.toNat := by
  apply Int32.toBitVec_inj.mp
  show y.toBitVec = BitVec.ofNat 32 y.toNat
  exact (BitVec.ofNat_toNat 32 y.toBitVec).symm ▸ (by simp)
theorem xush_in (x : Int32) : ∃ u, u < 2 ^ 31 ∧ xush x = nI u := by
  refine ⟨(x.toUInt32 >>> ((1 : Int32).toUInt32 &&& Int32.toUInt32 31)).toNat, ?_, u_nI _⟩
  have h1 : ((1 : Int32).toUInt32 &&& Int32.toUInt32 31) = 1 := by decide
  rw [h1, UInt32.toNat_shiftRight]
  have h2 := x.toUInt32.toNat_lt
  have h3 : (1 : UInt32).toNat % 32 = 1 := by decide
  rw [h3, Nat.shiftRight_eq_div_pow]
  omega
theorem nI_divm {u b : Nat} (hu : u < 2 ^ 31) (hb : b < 2 ^ 31) (h0 : 0 < b) : nI u - nI u / nI b * nI b = nI (u % b) := pk_rem hu h0 hb
theorem xpick_in (aa : gx_AA) (k : Int32) {b : Nat} (h0 : 0 < b) (hb : b < 2 ^ 31) : ∃ j, j < b ∧ xpick aa k (nI b) = nI j := by
  obtain ⟨u, hu, e⟩ := xush_in (xcell aa k)
  refine ⟨u % b, Nat.mod_lt _ h0, ?_⟩
  unfold xpick
  rw [e]
  exact nI_divm hu hb h0
theorem fl_sum (B : List (Nat × Nat)) (h : ∀ e ∈ B, e.2 ≤ 99) : sr (fun m => B.countP (fun e => decide (e.2 = m))) 0 100 = B.length := by
  induction B with
  | nil => exact sr_0 100 0
  | cons e B ih =>
    have h1 : sr (fun m => (e :: B).countP (fun e => decide (e.2 = m))) 0 100 = sr (fun m => B.countP (fun e => decide (e.2 = m)) + (if m = e.2 then 1 else 0)) 0 100 := by
      refine sr_congr 100 0 (fun m _ _ => ?_)
      rw [List.countP_cons]
      by_cases c : e.2 = m
      · rw [if_pos (decide_eq_true c), if_pos c.symm]
      · rw [if_neg (by rw [decide_eq_true_eq]; exact c), if_neg (fun q => c q.symm)]
    rw [h1, sr_add, sr_one, if_pos ⟨Nat.zero_le _, by have := h e List.mem_cons_self; omega⟩, ih (fun x hx => h x (List.mem_cons_of_mem _ hx)), List.length_cons]
theorem nat430 (a b w : Nat) (h : a + w + 300 ≤ b) : a + 1 + 1 + w + 298 ≤ b := by
  omega
section Whole9
variable {V : AN} {k : CS} {aa : gx_AA}
theorem ow_401 (h : kq V k) {κ : Nat} (hκ : κ + 3 ≤ 5600) (v3 : Int32) : ∃ κ2, fL_isWhole_401 aa (k, κ) v3 (nI (cntV V)) (nI (mxd V.1.2.2.2.2 0 0 V.1.1)) (nI V.2.2.1.length) 1 = some (1, (k, κ2)) := by
  have hw := h.2.1
  have hA := hw.2.1
  have hB := h.2.2.2.2.2.2.2.1
  have hK := h.2.2.2.2.1
  obtain ⟨n1, n2⟩ := cnt_in h.2
  unfold fL_isWhole_401
  dsimp only
  rw [if_neg one0, gx_chk_t (by omega), q_flagCount h, gx_b_some, if_pos rfl, if_neg (show ¬ (20 : Int32) < nI V.2.2.1.length from nI_nlt (a := 20) hB (by omega)), gx_chk_t (by omega), q_officerCount h, gx_b_some, if_pos (show nI (sr (fun o => i1 (hv V.1.2.2.2.2 o = true)) 0 V.1.1) = nI (cntV V) from rfl), gx_chk_t (by omega), show fL_commandSize k (0 : Int32) = _ from q_commandSize_t h (hv_0 _), gx_b_some]
  dsimp only
  rw [if_pos (show nI (siz V.1.1 V.1.2.2.2.2 0) = nI (cntV V) from congrArg nI (siz_0 hw)), gx_chk_t (by omega), q_greatestDepth h, gx_b_some, if_pos rfl, gx_chk_t (by omega), q_orderCount h, gx_b_some, if_neg (show ¬ (6 : Int32) < nI V.2.1.length from nI_nlt (a := 6) hK (by omega)), gx_chk_t (by omega), q_officerByRank h, gx_b_some]
  dsimp only
  rw [show atp V.1.1 V.1.2.1 V.1.2.2.1 V.1.2.2.2.2 (nI (cntV V)) 0 V.1.1 = none from atp_no hw]
  dsimp only
  rw [if_pos rfl]
  by_cases c : v3 = 0
  · rw [if_pos c, gx_chk_t (by omega)]
    exact ⟨_, rfl⟩
  · rw [if_neg c, gx_chk_t (by omega), q_isConsistent h, gx_b_some, if_neg one0, gx_chk_t (by omega)]
    exact ⟨_, rfl⟩
theorem ow_312 (h : kq V k) (ht : tot V ≤ 60) (v3 : Int32) : ∀ (d m n κ acc : Nat), m + d = 100 → d < n → κ + d + 10 ≤ 5600 → acc + sr (fun m => V.2.2.1.countP (fun e => decide (e.2 = m))) m d = V.2.2.1.length → ∃ κ2, fL_isWhole_312 aa n (k, κ) v3 (nI (cntV V)) (nI (sumV V)) (nI (mxd V.1.2.2.2.2 0 0 V.1.1)) (nI acc) (nI m) = some (1, (k, κ2)) := by
  have hw := h.2.1
  obtain ⟨n1, n2⟩ := cnt_in h.2
  have n3 := sum_in h.2
  intro d
  induction d with
  | zero =>
    intro m n κ acc hm hn hκ hacc
    obtain ⟨f, rfl⟩ : ∃ f, n = f + 1 := ⟨n - 1, by omega⟩
    have e1 : acc = V.2.2.1.length := hacc
    have e2 : m = 100 := hm
    have hf := f_ddiv (a := sumV V) (b := cntV V) (by omega) (by omega) (by omega)
    rw [fL_isWhole_312_s]
    dsimp only
    rw [e1, e2, if_pos (show (100 : Int32) ≤ nI 100 by decide), gx_chk_t (by omega), q_executedOrders h, gx_b_some, gx_chk_t (by omega), q_refusedOrders h, gx_b_some, gx_chk_t (by omega), q_lostOrders h, gx_b_some, gx_chk_t (by omega), q_meanLoyalty h, gx_b_some, gx_chk_t hf, if_pos (f_deq (by omega) (by omega) (by omega)), gx_chk_t (by omega), q_executedShare h ht, gx_b_some, nI_add, nI_add]
    dsimp only
    unfold shV
    unfold tot at ht
    by_cases c0 : V.2.2.2.2.1 + V.2.2.2.2.2.1 + V.2.2.2.2.2.2 = 0
    · rw [if_pos c0, c0, if_pos (show nI 0 = (0 : Int32) from rfl), if_pos f_74]
      exact ow_401 h (by omega) v3
    · have hg := f_fdiv (a := V.2.2.2.2.1) (b := V.2.2.2.2.1 + V.2.2.2.2.2.1 + V.2.2.2.2.2.2) (by omega) (by omega) c0
      rw [if_neg c0, if_neg (nI_ne0 (by omega) (by omega)), gx_chk_t (by omega), q_executedOrders h, gx_b_some, gx_chk_t hg, if_pos (f_feq (by omega) (by omega) c0)]
      exact ow_401 h (by omega) v3
  | succ d ih =>
    intro m n κ acc hm hn hκ hacc
    obtain ⟨f, rfl⟩ : ∃ f, n = f + 1 := ⟨n - 1, by omega⟩
    have hacc2 : acc + (V.2.2.1.countP (fun e => decide (e.2 = m)) + sr (fun m => V.2.2.1.countP (fun e => decide (e.2 = m))) (m + 1) d) = V.2.2.1.length := hacc
    rw [fL_isWhole_312_s]
    dsimp only
    rw [if_neg (show ¬ (100 : Int32) ≤ nI m from nI_ge (b := 100) (by omega) (by decide)), gx_chk_t (by omega), q_flagsWith h (by omega), gx_b_some]
    dsimp only
    rw [nI_add, nI_1]
    exact ih (m + 1) f _ _ (by omega) (by omega) (by omega) (by omega)
theorem ow_235 (h : kq V k) (hE : wE V) (ht : tot V ≤ 60) (v3 : Int32) : ∀ (d j n κ : Nat), j + d = V.2.1.length → d < n → κ + 5 * d + 115 ≤ 5600 → ∃ κ2, fL_isWhole_235 aa n (k, κ) v3 (nI V.1.1) (nI (cntV V)) (nI (sumV V)) (nI (mxd V.1.2.2.2.2 0 0 V.1.1)) (nI j) = some (1, (k, κ2)) := by
  have hw := h.2.1
  have hA := hw.2.1
  have hK := h.2.2.2.2.1
  have hO := h.2.2.2.2.2.2.1
  have hB := h.2.2.2.2.2.2.2
  intro d
  induction d with
  | zero =>
    intro j n κ hj hn hκ
    obtain ⟨f, rfl⟩ : ∃ f, n = f + 1 := ⟨n - 1, by omega⟩
    rw [fL_isWhole_235_s]
    dsimp only
    rw [gx_chk_t (by omega), q_orderCount h, gx_b_some, n_le (by omega) (by omega), if_pos (by omega)]
    exact ow_312 h ht v3 100 0 2000 κ 0 (by omega) (by omega) (by omega) (by rw [Nat.zero_add]; exact fl_sum _ (fun e he => (hB.2.2 e he).2.2))
  | succ d ih =>
    intro j n κ hj hn hκ
    obtain ⟨f, rfl⟩ : ∃ f, n = f + 1 := ⟨n - 1, by omega⟩
    obtain ⟨e, he⟩ := lt_get (K := V.2.1) (k := j) (by omega)
    obtain ⟨o1, o2, o3⟩ := hO e (List.mem_of_getElem? he)
    have o4 := hE e (List.mem_of_getElem? he)
    rw [fL_isWhole_235_s]
    dsimp only
    rw [gx_chk_t (by omega), q_orderCount h, gx_b_some, n_le (by omega) (by omega), if_neg (by omega), gx_chk_t (by omega), q_holder_t h he, gx_b_some]
    dsimp only
    rw [gx_chk_t (by omega), q_isInNavy_t h o1, gx_b_some, if_neg one0, gx_chk_t (by omega), q_target_t h he, gx_b_some]
    dsimp only
    rw [if_neg (show ¬ nI e.2.1 < (1 : Int32) from nI_nlt (a := e.2.1) (b := 1) o4 (by omega)), gx_chk_t (by omega), q_target_t h he, gx_b_some]
    dsimp only
    rw [n_le (by omega) (by omega), if_neg (by omega), gx_chk_t (by omega), q_severity_t h he, gx_b_some]
    dsimp only
    rw [if_neg (nI_pos (by omega)), gx_chk_t (by omega), q_severity_t h he, gx_b_some]
    dsimp only
    rw [if_pos (show nI e.2.2 ≤ (100 : Int32) from (nI_leI (b := 100) (by omega) (by decide)).mpr o3), nI_1]
    exact ih (j + 1) f _ (by omega) (by omega) (by omega)
theorem ow_132 (h : kq V k) (hE : wE V) (ht : tot V ≤ 60) (v3 : Int32) : ∀ (d p n κ : Nat), p + d = cntV V → 1 ≤ p → d < n → κ + 10 * d + 150 ≤ 5600 → ∃ κ2, fL_isWhole_132 aa n (k, κ) v3 (nI V.1.1) (nI (cntV V)) (nI (sumV V)) (nI (mxd V.1.2.2.2.2 0 0 V.1.1)) (nI p) = some (1, (k, κ2)) := by
  have hw := h.2.1
  have hA := hw.2.1
  have hK := h.2.2.2.2.1
  obtain ⟨n1, n2⟩ := cnt_in h.2
  intro d
  induction d with
  | zero =>
    intro p n κ hp hp1 hn hκ
    obtain ⟨f, rfl⟩ : ∃ f, n = f + 1 := ⟨n - 1, by omega⟩
    rw [fL_isWhole_132_s, n_le (by omega) (by omega), if_pos (by omega)]
    exact ow_235 h hE ht v3 V.2.1.length 0 2000 κ (by omega) (by omega) (by omega)
  | succ d ih =>
    intro p n κ hp hp1 hn hκ
    obtain ⟨f, rfl⟩ : ∃ f, n = f + 1 := ⟨n - 1, by omega⟩
    have hcv : sr (fun o => i1 (hv V.1.2.2.2.2 o = true)) 0 V.1.1 = cntV V := rfl
    obtain ⟨a, a1, a2, a3⟩ := atp_at (R := V.1.2.1) (L := V.1.2.2.1) hw (p := p - 1) (by omega)
    obtain ⟨b, b1', b2, b3⟩ := atp_at (R := V.1.2.1) (L := V.1.2.2.1) hw (p := p) (by omega)
    have haA := hv_lt hw a2
    have hbA := hv_lt hw b2
    have hRa := hw.2.2.2.2.2 a haA
    have hRb := hw.2.2.2.2.2 b hbA
    have hLa := (h.2.2.1 a haA).1
    have hLb := (h.2.2.1 b hbA).1
    obtain ⟨x1, x2⟩ := ahd_next (R := V.1.2.1) (L := V.1.2.2.1) haA hbA b2 (by omega)
    rw [fL_isWhole_132_s, n_le (by omega) (by omega), if_neg (by omega)]
    dsimp only
    rw [gx_chk_t (by omega), show nI p - (1 : Int32) = nI (p - 1) from n_sub (a := p) (b := 1) hp1, q_officerByRank h, gx_b_some, a1]
    dsimp only
    rw [gx_chk_t (by omega), q_officerByRank h, gx_b_some, b1']
    dsimp only
    rw [gx_chk_t (by omega), q_rank_t h a2, gx_b_some]
    dsimp only
    rw [gx_chk_t (by omega), q_rank_t h b2, gx_b_some]
    dsimp only
    rw [n_lt (by omega) (by omega), if_neg x1, gx_chk_t (by omega), q_rank_t h a2, gx_b_some]
    dsimp only
    rw [gx_chk_t (by omega), q_rank_t h b2, gx_b_some]
    dsimp only
    rw [n_eq (by omega) (by omega), nI_1]
    by_cases c : V.1.2.1 a = V.1.2.1 b
    · obtain ⟨x3, x4⟩ := x2 c
      rw [if_pos c, gx_chk_t (by omega), q_loyalty_t h a2, gx_b_some]
      dsimp only
      rw [gx_chk_t (by omega), q_loyalty_t h b2, gx_b_some]
      dsimp only
      rw [n_lt (by omega) (by omega), if_neg x3, gx_chk_t (by omega), q_loyalty_t h a2, gx_b_some]
      dsimp only
      rw [gx_chk_t (by omega), q_loyalty_t h b2, gx_b_some]
      dsimp only
      rw [n_eq (by omega) (by omega)]
      by_cases c2 : V.1.2.2.1 a = V.1.2.2.1 b
      · rw [if_pos c2, n_le (by omega) (by omega), if_pos (x4 c2)]
        exact ih (p + 1) f _ (by omega) (by omega) (by omega) (by omega)
      · rw [if_neg c2]
        exact ih (p + 1) f _ (by omega) (by omega) (by omega) (by omega)
    · rw [if_neg c]
      exact ih (p + 1) f _ (by omega) (by omega) (by omega) (by omega)
theorem ow_18 (h : kq V k) (h9 : V.1.2.1 0 = 9) (hE : wE V) (ht : tot V ≤ 60) (v3 : Int32) {m : Nat} (hm : m < 1000) : ∀ (d i n κ x y z : Nat) (τ : OS), i + d = V.1.1 → d < n → κ + 430 * d + 300 ≤ 5600 → x + sr (fun o => i1 (hv V.1.2.2.2.2 o = true)) i d = cntV V → y + sr (lo9 V.1.2.2.1 V.1.2.2.2.2) i d = sumV V → z ≤ 8 → mxd V.1.2.2.2.2 z i d = mxd V.1.2.2.2.2 0 0 V.1.1 → ∃ τ2 κ2, fL_isWhole_18 aa n (kO k τ, κ) (nI m) v3 (nI V.1.1) (nI x) (nI y) (nI z) (nI i) = some (1, (kO k τ2, κ2)) := by
  have hw := h.2.1
  have hA := hw.2.1
  obtain ⟨n1, n2⟩ := cnt_in h.2
  have n3 := sum_in h.2
  intro d
  induction d with
  | zero =>
    intro i n κ x y z τ hi hn hκ hx hy hz hmx
    obtain ⟨f, rfl⟩ : ∃ f, n = f + 1 := ⟨n - 1, by omega⟩
    have ex : x = cntV V := hx
    have ey : y = sumV V := hy
    have ez : z = mxd V.1.2.2.2.2 0 0 V.1.1 := hmx
    rw [fL_isWhole_18_s, n_le (by omega) (by omega), if_pos (by omega), ex, ey, ez]
    obtain ⟨κ2, e⟩ := ow_132 (aa := aa) (kq_O (τ := τ) h) hE ht v3 (cntV V - 1) 1 2000 κ (by omega) (by omega) (by omega) (by omega)
    exact ⟨τ, κ2, e⟩
  | succ d ih =>
    intro i n κ x y z τ hi hn hκ hx hy hz hmx
    obtain ⟨f, rfl⟩ : ∃ f, n = f + 1 := ⟨n - 1, by omega⟩
    have hx2 : x + (i1 (hv V.1.2.2.2.2 i = true) + sr (fun o => i1 (hv V.1.2.2.2.2 o = true)) (i + 1) d) = cntV V := hx
    have hy2 : y + (lo9 V.1.2.2.1 V.1.2.2.2.2 i + sr (lo9 V.1.2.2.1 V.1.2.2.2.2) (i + 1) d) = sumV V := hy
    have hm2 : mxd V.1.2.2.2.2 (if z < (ch V.1.2.2.2.2 i).length then (ch V.1.2.2.2.2 i).length else z) (i + 1) d = mxd V.1.2.2.2.2 0 0 V.1.1 := hmx
    have hlc := (ch_cX hw i).2
    have hko : kq V (kO k τ) := kq_O h
    rw [fL_isWhole_18_s, n_le (by omega) (by omega), if_neg (by omega)]
    dsimp only
    rw [gx_chk_t (by omega)]
    by_cases c : hv V.1.2.2.2.2 i = true
    rotate_left
    · have hP : V.1.2.2.2.2 i = none := (hv_no (Bool.eq_false_iff.mpr c)).2
      have hnn : ¬ ∃ o, nI i = nI o ∧ hv V.1.2.2.2.2 o = true := by
        rintro ⟨o, e, ho⟩
        exact c (by rw [(nI_eq (by omega) (by have := hv_lt hw ho; omega)).mp e]; exact ho)
      rw [ch_none hP, show ([] : List Nat).length = 0 from rfl, if_neg (Nat.not_lt_zero _)] at hm2
      rw [i1_f c] at hx2
      have e3 : lo9 V.1.2.2.1 V.1.2.2.2.2 i = 0 := if_neg c
      rw [q_isInNavy_f hko hnn, gx_b_some, if_pos rfl, gx_chk_t (by omega), q_rank_f hko hnn, gx_b_some]
      dsimp only
      rw [if_pos rfl, gx_chk_t (by omega), q_commandSize_f hko hnn, gx_b_some]
      dsimp only
      rw [if_pos rfl, nI_1]
      exact ih (i + 1) f _ x y z τ (by omega) (by omega) (by omega) (by omega) (by omega) hz hm2
    · have hL := (h.2.2.1 i (by omega)).1
      rw [i1_t c] at hx2
      have e3 : lo9 V.1.2.2.1 V.1.2.2.2.2 i = V.1.2.2.1 i := if_pos c
      rw [q_isInNavy_t hko c, gx_b_some, if_neg one0, gx_chk_t (by omega), q_loyalty_t hko c, gx_b_some]
      dsimp only
      rw [gx_chk_t (by omega), q_depth_t hko c, gx_b_some]
      dsimp only
      rw [gx_chk_t (by omega), nI_1, nI_1, nI_add, n_lt (by omega) (by omega), n_ite]
      have hz2 : (if z < (ch V.1.2.2.2.2 i).length then (ch V.1.2.2.2.2 i).length else z) ≤ 8 := by split <;> omega
      have hoff : ∀ (κ : Nat), κ + 430 * (d + 1) + 298 ≤ 5600 → ∃ τ2 κ2, fL_isWhole_79 aa (fL_isWhole_18 aa f) (kO k τ, κ) (nI m) v3 (nI V.1.1) (nI (x + 1)) (nI (y + V.1.2.2.1 i)) (nI (if z < (ch V.1.2.2.2.2 i).length then (ch V.1.2.2.2.2 i).length else z)) (nI i) = some (1, (kO k τ2, κ2)) := by
        intro κ hκ2
        obtain ⟨sv, hs1, hs2⟩ := xpick_in aa (nI (m + 2)) (b := 101) (by decide) (by decide)
        obtain ⟨τ3, κ3, hp⟩ := p_isOfficer (aa := aa) hko h9 c (show sv ≤ 100 by omega)
        unfold fL_isWhole_79
        rw [show nI m + (2 : Int32) = nI (m + 2) from nI_add m 2]
        dsimp only
        rw [gx_chk_t ⟨by omega, nI_pos (by omega), by decide⟩, gx_chk_t (by omega), show xpick aa (nI (m + 2)) (101 : Int32) = nI sv from hs2, hp, gx_b_some]
        dsimp only
        rw [if_neg one0, kO_O, nI_1]
        exact ih (i + 1) f _ _ _ _ τ3 (by omega) (by omega) (by omega) (by omega) (by omega) hz2 hm2
      have hk9 : κ + 1 + 1 + 430 * (d + 1) + 298 ≤ 5600 := nat430 κ 5600 (430 * (d + 1)) hκ
      by_cases c3 : v3 = 0
      · rw [if_pos c3, gx_chk_t ⟨by omega, nI_pos (by omega), by decide⟩]
        by_cases c4 : nI i = xpick aa (nI (m + 1)) (12 : Int32)
        · rw [if_pos c4]
          exact hoff (κ + 1 + 1) hk9
        · rw [if_neg c4, nI_1]
          exact ih (i + 1) f (κ + 1 + 1) (x + 1) (y + V.1.2.2.1 i) _ τ (by omega) (by omega) (by omega) (by omega) (by omega) hz2 hm2
      · rw [if_neg c3]
        exact hoff (κ + 1 + 1) hk9
theorem p_isWhole (h : kq V k) (h9 : V.1.2.1 0 = 9) (hE : wE V) (ht : tot V ≤ 60) (v3 : Int32) {m : Nat} (hm : m < 1000) : ∃ τ2 κ2, fL_isWhole aa k (nI m) v3 = some (1, (kO k τ2, κ2)) := by
  have hA := h.2.1.2.1
  unfold fL_isWhole
  rw [gx_chk_t (by decide), q_appointedCount h, gx_b_some]
  exact ow_18 h h9 hE ht v3 hm V.1.1 0 2000 0 0 0 0 k.2.2.2.2.2.1 (by omega) (by omega) (by omega) (Nat.zero_add _) (Nat.zero_add _) (by omega) rfl
end Whole9
