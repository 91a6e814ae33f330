/-! the state between two calls, the class alone; a call that is recorded -/
def kI (V : AN) : Prop := wO V 0 ∧ wE V ∧ V.1.2.1 0 = 9
def KB (V : AN) (Hs : List AN) (T : List Nat) (k : CS) : Prop :=
  (∃ w, w ≤ V.2.1.length ∧ zN V w k.1) ∧ kI V ∧ hN Hs k.2.2.2.2.2.2.1 ∧ (Hs.length ≤ 8 ∧ ∀ U ∈ Hs, kI U) ∧ (k.2.2.2.2.1.1 1 = nI T.length ∧ ∀ i x, T[i]? = some x → k.2.2.2.2.1.2 0 i = nI x)
theorem KB_kq {V : AN} {Hs : List AN} {T : List Nat} {k : CS} (h : KB V Hs T k) : kq V k := ⟨h.1, h.2.1.1⟩
theorem KB_O {V : AN} {Hs : List AN} {T : List Nat} {k : CS} {τ : OS} (h : KB V Hs T k) : KB V Hs T (kO k τ) := h
/-! a reference state of the same value: there always is one -/
def gsO (V : AN) (o c : Nat) : Int32 := if c = 0 then b1 (hv V.1.2.2.2.2 o) else if c = 1 then nI (V.1.2.1 o) else if c = 2 then nI (V.1.2.2.1 o) else if c = 3 then nI (V.1.2.2.2.1 o) else pI (V.1.2.2.2.2 o)
def gsN (e : ON) (c : Nat) : Int32 := if c = 0 then nI e.1 else if c = 1 then nI e.2.1 else if c = 2 then nI e.2.2 else 0
def gsB (e : Nat × Nat) (c : Nat) : Int32 := if c = 0 then nI e.1 else nI e.2
def gst (V : AN) (i : Nat) : Int32 :=
  if i < 7 then (if i = 0 then nI V.1.1 else if i = 1 then V.2.2.2.1 else if i = 2 then nI V.2.2.2.2.1 else if i = 3 then nI V.2.2.2.2.2.1 else if i = 4 then nI V.2.2.2.2.2.2 else if i = 5 then nI V.2.1.length else nI V.2.2.1.length)
  else if i < 67 then gsO V ((i - 7) / 5) ((i - 7) % 5)
  else if i < 91 then gsN (V.2.1.getD ((i - 67) / 4) (0, 0, 0)) ((i - 67) % 4)
  else gsB (V.2.2.1.getD ((i - 91) / 2) (0, 0)) ((i - 91) % 2)
theorem gst_o (V : AN) {o c : Nat} (ho : o < 12) (hc : c < 5) : gst V (7 + 5 * o + c) = gsO V o c := by
  unfold gst
  rw [if_neg (by omega), if_pos (by omega), show (7 + 5 * o + c - 7) / 5 = o by omega, show (7 + 5 * o + c - 7) % 5 = c by omega]
theorem gst_n (V : AN) {k c : Nat} {e : ON} (he : V.2.1[k]? = some e) (hk : k < 6) (hc : c < 4) : gst V (67 + 4 * k + c) = gsN e c := by
  unfold gst
  rw [if_neg (by omega), if_neg (by omega), if_pos (by omega), show (67 + 4 * k + c - 67) / 4 = k by omega, show (67 + 4 * k + c - 67) % 4 = c by omega, List.getD_eq_getElem?_getD, he]
  rfl
theorem gst_b (V : AN) {k c : Nat} {e : Nat × Nat} (he : V.2.2.1[k]? = some e) (hc : c < 2) : gst V (91 + 2 * k + c) = gsB e c := by
  unfold gst
  rw [if_neg (by omega), if_neg (by omega), if_neg (by omega), show (91 + 2 * k + c - 91) / 2 = k by omega, show (91 + 2 * k + c - 91) % 2 = c by omega, List.getD_eq_getElem?_getD, he]
  rfl
def gh (V : AN) : OS := (fun _ => 0, fun _ => gst V)
theorem gh_ok {V : AN} (hw : wO V 0) : zG V 0 ((gh V).2 1) := by
  have hA := hw.1.2.1
  have hK := hw.2.2.2.1
  refine ⟨⟨rfl, fun o ho => ⟨gst_o V (c := 0) (by omega) (by omega), gst_o V (c := 1) (by omega) (by omega), gst_o V (c := 2) (by omega) (by omega), gst_o V (c := 3) (by omega) (by omega), gst_o V (c := 4) (by omega) (by omega)⟩⟩, ⟨rfl, fun k e he => ?_⟩, ⟨rfl, fun k e he => ⟨gst_b V (c := 0) he (by omega), gst_b V (c := 1) he (by omega)⟩⟩, rfl, rfl, rfl, rfl⟩
  have hk := get_lt he
  exact ⟨gst_n V (c := 0) he (by omega) (by omega), gst_n V (c := 1) he (by omega) (by omega), gst_n V (c := 2) he (by omega) (by omega), (gst_n V (c := 3) he (by omega) (by omega)).trans (if_neg (Nat.not_lt_zero _)).symm⟩
/-! what stays: targets and ranks -/
theorem dis_sub (o : Nat) : ∀ (j : Nat) (q : List ON × Nat), ∀ e ∈ (dis o j q).1.1, e ∈ q.1 := by
  intro j
  induction j with
  | zero => intro q e h; exact h
  | succ j ih =>
    intro q e h
    unfold dis at h
    cases c : q.1[j]? with
    | none => rw [c] at h; exact ih q e h
    | some x =>
      rw [c] at h
      dsimp only at h
      by_cases c2 : x.1 = o
      · rw [if_pos c2] at h
        exact List.mem_of_mem_eraseIdx (ih (del1 j q) e h)
      · rw [if_neg c2] at h
        exact ih q e h
theorem vis_E (V : AN) (w : Nat) : (vis1 V w).1.1.2.1 = V.1.2.1 ∧ ∀ e ∈ (vis1 V w).1.2.1, ∃ e0 ∈ V.2.1, e.2.1 = e0.2.1 := by
  unfold vis1
  cases he : V.2.1[w]? with
  | none => exact ⟨rfl, fun e h => ⟨e, h, rfl⟩⟩
  | some e0 =>
    dsimp only
    cases hb : bf e0.1 e0.2.1 (ch V.1.2.2.2.2 e0.2.1) with
    | none => exact ⟨rfl, fun e h => ⟨e, List.mem_of_mem_eraseIdx h, rfl⟩⟩
    | some n =>
      dsimp only
      by_cases c1 : e0.2.2 ≤ V.1.2.2.1 n
      · rw [if_pos c1]
        by_cases c2 : n = e0.2.1
        · rw [if_pos c2]
          exact ⟨rfl, fun e h => ⟨e, List.mem_of_mem_eraseIdx h, rfl⟩⟩
        · rw [if_neg c2]
          refine ⟨rfl, fun e h => ?_⟩
          rcases List.mem_or_eq_of_mem_set h with h | h
          · exact ⟨e, h, rfl⟩
          · exact ⟨e0, List.mem_of_getElem? he, by rw [h]⟩
      · rw [if_neg c1]
        by_cases c2 : V.1.2.2.2.1 n + 1 < 3
        · rw [if_pos c2]
          exact ⟨rfl, fun e h => ⟨e, List.mem_of_mem_eraseIdx h, rfl⟩⟩
        · rw [if_neg c2]
          exact ⟨rfl, fun e h => ⟨e, List.mem_of_mem_eraseIdx (dis_sub n _ _ e h), rfl⟩⟩
theorem hrs_E : ∀ (n : Nat) (x : AN × Nat), (hrs n x).1.1.2.1 = x.1.1.2.1 ∧ ∀ e ∈ (hrs n x).1.2.1, ∃ e0 ∈ x.1.2.1, e.2.1 = e0.2.1 := by
  intro n
  induction n with
  | zero => intro x; exact ⟨rfl, fun e h => ⟨e, h, rfl⟩⟩
  | succ n ih =>
    intro x
    by_cases c : x.2 < x.1.2.1.length
    · have ev : hrs (n + 1) x = hrs n (vis1 x.1 x.2) := if_pos c
      obtain ⟨a1, a2⟩ := ih (vis1 x.1 x.2)
      obtain ⟨b1', b2⟩ := vis_E x.1 x.2
      rw [ev]
      refine ⟨a1.trans b1', fun e h => ?_⟩
      obtain ⟨e1, h1, q1⟩ := a2 e h
      obtain ⟨e2, h2, q2⟩ := b2 e1 h1
      exact ⟨e2, h2, q1.trans q2⟩
    · have ev : hrs (n + 1) x = x := if_neg c
      rw [ev]
      exact ⟨rfl, fun e h => ⟨e, h, rfl⟩⟩
theorem hours_E : ∀ (n : Nat) (V : AN), (hours n V).1.2.1 = V.1.2.1 ∧ ∀ e ∈ (hours n V).2.1, ∃ e0 ∈ V.2.1, e.2.1 = e0.2.1 := by
  intro n
  induction n with
  | zero => intro V; exact ⟨rfl, fun e h => ⟨e, h, rfl⟩⟩
  | succ n ih =>
    intro V
    obtain ⟨a1, a2⟩ := ih (one V)
    obtain ⟨b1', b2⟩ := hrs_E 6 (V, 0)
    refine ⟨a1.trans b1', fun e h => ?_⟩
    obtain ⟨e1, h1, q1⟩ := a2 e h
    obtain ⟨e2, h2, q2⟩ := b2 e1 h1
    exact ⟨e2, h2, q1.trans q2⟩
section Stays
variable {V V' : AN} {a : Nat} {p1 p2 : Int32}
def kS (V : AN) : Prop := wE V ∧ V.1.2.1 0 = 9
theorem s_add (h : kI V) (hp : PoAdd V p1 V' a) : kS V' := by
  obtain ⟨o, r, l, -, -, -, -, -, -, -, e⟩ := hp
  rw [e]
  exact ⟨h.2.1, (uN_o (by have := h.1.1.1; omega)).trans h.2.2⟩
theorem s_raise (h : kI V) (hp : PoRaise V p1 V' a) : kS V' := by
  obtain ⟨o, -, -, h0, -, e⟩ := hp
  rw [e]
  exact ⟨h.2.1, (uN_o (fun q => h0 q.symm)).trans h.2.2⟩
theorem s_move (h : kI V) (hp : PoMove V p1 p2 V' a) : kS V' := by
  obtain ⟨o, s, -, -, -, -, -, -, -, -, -, e⟩ := hp
  rw [e]
  exact ⟨h.2.1, h.2.2⟩
theorem s_fire (h : kI V) (hp : PoFire V p1 V' a) : kS V' := by
  obtain ⟨o, -, -, -, -, e⟩ := hp
  rw [e]
  exact ⟨fun e h9 => h.2.1 e (dis_sub o _ _ e h9), h.2.2⟩
theorem s_send (h : kI V) (hp : PoSend V p1 p2 V' a) : kS V' := by
  obtain ⟨o, s, v, -, -, -, -, hin, -, -, e⟩ := hp
  rw [e]
  refine ⟨fun e h9 => ?_, h.2.2⟩
  rcases List.mem_append.mp h9 with q | q
  · exact h.2.1 e q
  · rw [List.mem_singleton.mp q]
    show 1 ≤ s
    rcases Nat.eq_zero_or_pos s with z | z
    · rw [z, ch_none h.1.1.2.2.1] at hin
      cases hin
    · exact z
theorem s_pass (h : kI V) (hp : PoPass V p1 V' a) : kS V' := by
  obtain ⟨n, -, -, -, e, -, -⟩ := hp
  rw [e]
  obtain ⟨a1, a2⟩ := hours_E n V
  refine ⟨fun e h9 => ?_, by rw [a1]; exact h.2.2⟩
  obtain ⟨e0, q1, q2⟩ := a2 e h9
  rw [q2]
  exact h.2.1 e0 q1
theorem s_book (h : kI V) (hp : PoBook V V' a) : kS V' := by
  obtain ⟨B, e⟩ := hp
  rw [e]
  exact ⟨h.2.1, h.2.2⟩
end Stays
/-- it refuses and changes nothing, or it changes the navy as Po says and keeps what was -/
def RsC (V : AN) (Hs : List AN) (r : Option (Int32 × CS)) (Po : AN → Nat → Prop) : Prop :=
  (∃ v k', r = some (v, k') ∧ v ≤ -70 ∧ KB V Hs [] k') ∨ (∃ V' a k', r = some (nI a, k') ∧ a < 2 ^ 31 ∧ KB V' (hA Hs V) [] k' ∧ Po V' a)
theorem RsC_w {V : AN} {Hs : List AN} {r : Option (Int32 × CS)} {Po Po2 : AN → Nat → Prop} (h : RsC V Hs r Po) (hp : ∀ V' a, wO V' 0 → Po V' a → Po2 V' a) : RsC V Hs r Po2 := by
  rcases h with h | ⟨V', a, k', h1, h2, h3, h4⟩
  · exact Or.inl h
  · exact Or.inr ⟨V', a, k', h1, h2, h3, hp V' a h3.2.1.1 h4⟩
theorem q_neg {d : Int32} (h : d < 0) : ¬ (0 : Int32) ≤ d := by
  intro h9
  rw [Int32.lt_iff_toInt_lt] at h
  rw [Int32.le_iff_toInt_le] at h9
  omega
theorem hA_in {Hs : List AN} {V U : AN} (h : U ∈ hA Hs V) : U ∈ Hs ∨ U = V := by
  rcases List.mem_append.mp h with q | q
  · exact Or.inl (List.mem_of_mem_drop q)
  · exact Or.inr (List.mem_singleton.mp q)
theorem kcd {V : AN} {Hs : List AN} {k : CS} (h : KB V Hs [] k) {tbl : List (Nat × Int32)} {rc : Option (Int32 × NS)} {rm : Option (Int32 × OS)} {Po : AN → Nat → Prop} {σ : OS} {n' : NS} {w : Nat} {f : Nat × CS → Option (Int32 × CS)} (hwl : w ≤ V.2.1.length) (hn : zN V w n') (hf : ∀ q ∈ tbl, q.2 < 0 ∧ ∀ k' : CS, ∃ v, v ≤ -70 ∧ f (tcd q.2, k') = some (v, k')) (ha : Act V tbl k.1 σ rc rm Po) (hPo : ∀ V' a, wO V' 0 → Po V' a → kS V') :
    RsC V Hs (gx_or (gx_b rc (fun r => gx_b (fX8_record (r.2, (n', k.2.2)) r.1) (fun s => some (s.1, s.2)))) (fun r => some (r.1, r.2)) (gx_b (gx_b rc (fun r => gx_or (fX8_record (r.2, (n', k.2.2)) r.1) (fun _ => none) (xX8_record (r.2, (n', k.2.2)) r.1))) f)) Po := by
  rcases ha with ⟨q, hq, r1, -⟩ | ⟨V', w', τ', σ', a, r1, -, a1, a2, a3, -, a5, -, -, -, a9⟩
  · obtain ⟨f1, f2⟩ := hf q hq
    obtain ⟨v, f3, f4⟩ := f2 (k.1, n', k.2.2)
    refine Or.inl ⟨v, (k.1, n', k.2.2), ?_, f3, h⟩
    rw [r1, gx_b_some, gx_b_some]
    unfold fX8_record xX8_record
    rw [if_neg (q_neg f1), if_neg (q_neg f1), q_bn, or_none, or_none, x_throw, gx_b_some, gx_b_some]
    exact f4
  · obtain ⟨h', t1, t2⟩ := c_keep (h := k.2.2.2.2.2.2.1) h.2.2.2.1.1 h.2.2.1 h.2.1.1 hwl hn
    obtain ⟨s1, s2⟩ := hPo V' a a5 a9
    refine Or.inr ⟨V', a, (τ', n', k.2.2.1, k.2.2.2.1, k.2.2.2.2.1, k.2.2.2.2.2.1, h', k.2.2.2.2.2.2.2), ?_, a1, ⟨⟨w', a2, a3⟩, ⟨a5, s1, s2⟩, t2, ⟨?_, fun U hU => ?_⟩, h.2.2.2.2⟩, a9⟩
    · rw [r1, gx_b_some]
      unfold fX8_record
      rw [if_pos (nI_pos' a1)]
      unfold fX8_record_8
      dsimp only
      rw [t1, gx_b_some, gx_b_some, or_some]
    · rw [hA_len Hs V h.2.2.2.1.1]
      have := h.2.2.2.1.1
      omega
    · rcases hA_in hU with q | q
      · exact h.2.2.2.1.2 U q
      · rw [q]; exact h.2.1
section Calls9
variable {V : AN} {Hs : List AN} {k : CS}
theorem cl_appoint (h : KB V Hs [] k) (p1 p2 p3 : Int32) : RsC V Hs (fL_appoint k p1 p2 p3) (PoAdd V p1) := by
  obtain ⟨w, hwl, hc⟩ := h.1
  obtain ⟨n', c1, c2⟩ := c_copy k.2.1 h.2.1.1 hc
  have hwv : wO V w := ⟨h.2.1.1.1, h.2.1.1.2.1, h.2.1.1.2.2.1, h.2.1.1.2.2.2.1, hwl, h.2.1.1.2.2.2.2.2⟩
  unfold fL_appoint fX8_appoint xX8_appoint
  rw [c1, gx_b_some, gx_b_some]
  refine kcd h hwl c2 (fun q hq => ?_) (a_add (σ := gh V) hwv hc (gh_ok h.2.1.1) p1 p2 p3) (fun V' a _ hp => s_add h.2.1 hp)
  simp only [List.mem_cons, List.not_mem_nil, or_false] at hq
  rcases hq with rfl | rfl | rfl
  · exact ⟨by decide, fun k' => ⟨-77, by decide, rfl⟩⟩
  · exact ⟨by decide, fun k' => ⟨-78, by decide, rfl⟩⟩
  · exact ⟨by decide, fun k' => ⟨-79, by decide, rfl⟩⟩
theorem cl_promote (h : KB V Hs [] k) (p1 : Int32) : RsC V Hs (fL_promote k p1) (PoRaise V p1) := by
  obtain ⟨w, hwl, hc⟩ := h.1
  obtain ⟨n', c1, c2⟩ := c_copy k.2.1 h.2.1.1 hc
  have hwv : wO V w := ⟨h.2.1.1.1, h.2.1.1.2.1, h.2.1.1.2.2.1, h.2.1.1.2.2.2.1, hwl, h.2.1.1.2.2.2.2.2⟩
  unfold fL_promote fX8_promote xX8_promote
  rw [c1, gx_b_some, gx_b_some]
  refine kcd h hwl c2 (fun q hq => ?_) (a_raise (σ := gh V) hwv hc (gh_ok h.2.1.1) p1) (fun V' a _ hp => s_raise h.2.1 hp)
  simp only [List.mem_cons, List.not_mem_nil, or_false] at hq
  rcases hq with rfl | rfl
  · exact ⟨by decide, fun k' => ⟨-77, by decide, rfl⟩⟩
  · exact ⟨by decide, fun k' => ⟨-79, by decide, rfl⟩⟩
theorem cl_transfer (h : KB V Hs [] k) (p1 p2 : Int32) : RsC V Hs (fL_transfer k p1 p2) (PoMove V p1 p2) := by
  obtain ⟨w, hwl, hc⟩ := h.1
  obtain ⟨n', c1, c2⟩ := c_copy k.2.1 h.2.1.1 hc
  have hwv : wO V w := ⟨h.2.1.1.1, h.2.1.1.2.1, h.2.1.1.2.2.1, h.2.1.1.2.2.2.1, hwl, h.2.1.1.2.2.2.2.2⟩
  unfold fL_transfer fX8_transfer xX8_transfer
  rw [c1, gx_b_some, gx_b_some]
  refine kcd h hwl c2 (fun q hq => ?_) (a_move (σ := gh V) hwv hc (gh_ok h.2.1.1) p1 p2) (fun V' a _ hp => s_move h.2.1 hp)
  simp only [List.mem_cons, List.not_mem_nil, or_false] at hq
  rcases hq with rfl | rfl | rfl | rfl
  · exact ⟨by decide, fun k' => ⟨-77, by decide, rfl⟩⟩
  · exact ⟨by decide, fun k' => ⟨-78, by decide, rfl⟩⟩
  · exact ⟨by decide, fun k' => ⟨-76, by decide, rfl⟩⟩
  · exact ⟨by decide, fun k' => ⟨-79, by decide, rfl⟩⟩
theorem cl_dismiss (h : KB V Hs [] k) (p1 : Int32) : RsC V Hs (fL_dismiss k p1) (PoFire V p1) := by
  obtain ⟨w, hwl, hc⟩ := h.1
  obtain ⟨n', c1, c2⟩ := c_copy k.2.1 h.2.1.1 hc
  have hwv : wO V w := ⟨h.2.1.1.1, h.2.1.1.2.1, h.2.1.1.2.2.1, h.2.1.1.2.2.2.1, hwl, h.2.1.1.2.2.2.2.2⟩
  unfold fL_dismiss fX8_dismiss xX8_dismiss
  rw [c1, gx_b_some, gx_b_some]
  refine kcd h hwl c2 (fun q hq => ?_) (a_fire (σ := gh V) hwv hc (gh_ok h.2.1.1) p1) (fun V' a _ hp => s_fire h.2.1 hp)
  simp only [List.mem_cons, List.not_mem_nil, or_false] at hq
  rcases hq with rfl | rfl
  · exact ⟨by decide, fun k' => ⟨-77, by decide, rfl⟩⟩
  · exact ⟨by decide, fun k' => ⟨-78, by decide, rfl⟩⟩
theorem cl_issue (h : KB V Hs [] k) (p1 p2 p3 : Int32) : RsC V Hs (fL_issue k p1 p2 p3) (PoSend V p1 p2) := by
  obtain ⟨w, hwl, hc⟩ := h.1
  obtain ⟨n', c1, c2⟩ := c_copy k.2.1 h.2.1.1 hc
  have hwv : wO V w := ⟨h.2.1.1.1, h.2.1.1.2.1, h.2.1.1.2.2.1, h.2.1.1.2.2.2.1, hwl, h.2.1.1.2.2.2.2.2⟩
  unfold fL_issue fX8_issue xX8_issue
  rw [c1, gx_b_some, gx_b_some]
  refine kcd h hwl c2 (fun q hq => ?_) (a_send (σ := gh V) hwv hc (gh_ok h.2.1.1) p1 p2 p3) (fun V' a _ hp => s_send h.2.1 hp)
  simp only [List.mem_cons, List.not_mem_nil, or_false] at hq
  rcases hq with rfl | rfl | rfl | rfl
  · exact ⟨by decide, fun k' => ⟨-77, by decide, rfl⟩⟩
  · exact ⟨by decide, fun k' => ⟨-78, by decide, rfl⟩⟩
  · exact ⟨by decide, fun k' => ⟨-79, by decide, rfl⟩⟩
  · exact ⟨by decide, fun k' => ⟨-76, by decide, rfl⟩⟩
theorem cl_passHours (h : KB V Hs [] k) (ht : tot V < 2 ^ 31) (p1 : Int32) : RsC V Hs (fL_passHours k p1) (PoPass V p1) := by
  obtain ⟨w, hwl, hc⟩ := h.1
  obtain ⟨n', c1, c2⟩ := c_copy k.2.1 h.2.1.1 hc
  have hwv : wO V w := ⟨h.2.1.1.1, h.2.1.1.2.1, h.2.1.1.2.2.1, h.2.1.1.2.2.2.1, hwl, h.2.1.1.2.2.2.2.2⟩
  unfold fL_passHours fX8_passHours xX8_passHours
  rw [c1, gx_b_some, gx_b_some]
  refine kcd h hwl c2 (fun q hq => ?_) (a_pass (σ := gh V) hwv hc (gh_ok h.2.1.1) ht p1) (fun V' a _ hp => s_pass h.2.1 hp)
  simp only [List.mem_cons, List.not_mem_nil, or_false] at hq
  rcases hq with rfl
  exact ⟨by decide, fun k' => ⟨-78, by decide, rfl⟩⟩
theorem cl_define (h : KB V Hs [] k) (p1 p2 p3 : Int32) : RsC V Hs (fL_define k p1 p2 p3) (PoBook V) := by
  obtain ⟨w, hwl, hc⟩ := h.1
  obtain ⟨n', c1, c2⟩ := c_copy k.2.1 h.2.1.1 hc
  have hwv : wO V w := ⟨h.2.1.1.1, h.2.1.1.2.1, h.2.1.1.2.2.1, h.2.1.1.2.2.2.1, hwl, h.2.1.1.2.2.2.2.2⟩
  have hx := kcd (f := fun q => if q.1 = 2 then some (((-78) : Int32), q.2) else if q.1 = 3 then some (((-79) : Int32), q.2) else none) h hwl c2 (fun q hq => ?_) (a_sign (σ := gh V) hwv hc (gh_ok h.2.1.1) p1 p2 p3) (fun V' a _ hp => s_book h.2.1 hp)
  rotate_left
  · simp only [List.mem_cons, List.not_mem_nil, or_false] at hq
    rcases hq with rfl | rfl
    · exact ⟨by decide, fun k' => ⟨-78, by decide, rfl⟩⟩
    · exact ⟨by decide, fun k' => ⟨-79, by decide, rfl⟩⟩
  rw [bk_b, bk_b] at hx
  unfold fL_define fX8_define xX8_define
  rw [c1, gx_b_some, gx_b_some]
  exact hx
theorem cl_erase (h : KB V Hs [] k) (p1 p2 : Int32) : RsC V Hs (fL_erase k p1 p2) (PoBook V) := by
  obtain ⟨w, hwl, hc⟩ := h.1
  obtain ⟨n', c1, c2⟩ := c_copy k.2.1 h.2.1.1 hc
  have hwv : wO V w := ⟨h.2.1.1.1, h.2.1.1.2.1, h.2.1.1.2.2.1, h.2.1.1.2.2.2.1, hwl, h.2.1.1.2.2.2.2.2⟩
  have hx := kcd (f := fun q => if q.1 = 2 then some (((-78) : Int32), q.2) else if q.1 = 5 then some (((-75) : Int32), q.2) else none) h hwl c2 (fun q hq => ?_) (a_unsign (σ := gh V) hwv hc (gh_ok h.2.1.1) p1 p2) (fun V' a _ hp => s_book h.2.1 hp)
  rotate_left
  · simp only [List.mem_cons, List.not_mem_nil, or_false] at hq
    rcases hq with rfl | rfl
    · exact ⟨by decide, fun k' => ⟨-78, by decide, rfl⟩⟩
    · exact ⟨by decide, fun k' => ⟨-75, by decide, rfl⟩⟩
  rw [bk_b, bk_b] at hx
  unfold fL_erase fX8_erase xX8_erase
  rw [c1, gx_b_some, gx_b_some]
  exact hx
end Calls9
