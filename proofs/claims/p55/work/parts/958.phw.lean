/-! what a call leaves: counts, sizes, the way of a single order -/
theorem sr_last (f : Nat → Nat) : ∀ (k i : Nat), sr f i (k + 1) = sr f i k + f (i + k) := by
  intro k
  induction k with
  | zero => intro i; show f i + 0 = 0 + f (i + 0); rw [Nat.add_zero, Nat.add_zero, Nat.zero_add]
  | succ k ih =>
    intro i
    show f i + sr f (i + 1) (k + 1) = (f i + sr f (i + 1) k) + f (i + (k + 1))
    rw [ih (i + 1), show i + 1 + k = i + (k + 1) by omega, Nat.add_assoc]
section After
variable {V V' : AN} {a : Nat} {p1 p2 : Int32}
theorem po_add (hw : wO V 0) (hw' : wO V' 0) (hp : PoAdd V p1 V' a) : tot V' = tot V ∧ a = V.1.1 ∧ hv V'.1.2.2.2.2 a = true ∧ a ≠ 0 ∧ (∃ o, p1 = nI o ∧ V'.1.2.2.2.2 a = some o) ∧ cntV V' = cntV V + 1 ∧ siz V'.1.1 V'.1.2.2.2.2 a = 1 := by
  obtain ⟨o, r, l, e1, ho, -, -, -, hA, ea, e⟩ := hp
  have hoA := hv_lt hw.1 ho
  have hA1 := hw.1.1
  have hP : V'.1.2.2.2.2 = uN V.1.2.2.2.2 V.1.1 (some o) := by rw [e]
  have hAA : V'.1.1 = V.1.1 + 1 := by rw [e]
  have hPa : V'.1.2.2.2.2 V.1.1 = some o := by rw [hP, uN_s]
  have hPj : ∀ j, j ≠ V.1.1 → V'.1.2.2.2.2 j = V.1.2.2.2.2 j := fun j hj => by rw [hP, uN_o hj]
  refine ⟨by rw [e]; rfl, ea, ?_, by omega, ⟨o, e1, by rw [ea]; exact hPa⟩, ?_, ?_⟩
  · rw [ea]; exact hv_some hPa
  · unfold cntV
    rw [hAA, sr_last, Nat.zero_add, i1_t (hv_some hPa)]
    congr 1
    refine sr_congr _ _ (fun j _ hj => ?_)
    have : hv V'.1.2.2.2.2 j = hv V.1.2.2.2.2 j := by
      unfold hv
      rw [hPj j (by omega)]
    rw [this]
  · rw [siz_rec hw'.1, ea, sr_congr (g := fun _ => 0) _ _ (fun j _ _ => ?_), sr_0]
    rw [if_neg]
    intro q
    by_cases c : j = V.1.1
    · rw [c, hPa] at q
      have := Option.some.inj q
      omega
    · rw [hPj j c] at q
      have := (hw.1.2.2.2.2.1 j _ q).1
      omega
theorem po_raise (hp : PoRaise V p1 V' a) : tot V' = tot V ∧ ∃ o, p1 = nI o ∧ hv V'.1.2.2.2.2 o = true ∧ V'.1.2.1 o = a := by
  obtain ⟨o, e1, ho, -, ea, e⟩ := hp
  rw [e]
  exact ⟨rfl, o, e1, ho, by show uN V.1.2.1 o (V.1.2.1 o + 1) o = a; rw [uN_s, ea]⟩
theorem ch_upto {P P' : Nat → Option Nat} {o : Nat} (he : ∀ q, q ≠ o → P' q = P q) : ∀ (l l' : List Nat) (x : Option Nat), cX P x l → cX P' x l' → (o ∈ l ↔ o ∈ l') := by
  intro l
  induction l with
  | nil =>
    intro l' x h h'
    cases l' with
    | nil => exact Iff.rfl
    | cons p l' =>
      have e1 : x = none := h
      have e2 : x = some p := h'.1
      rw [e1] at e2; cases e2
  | cons p l ih =>
    intro l' x h h'
    cases l' with
    | nil =>
      have e1 : x = none := h'
      have e2 : x = some p := h.1
      rw [e1] at e2; cases e2
    | cons p' l' =>
      have e1 : x = some p := h.1
      have e2 : x = some p' := h'.1
      rw [e1] at e2
      have ep := Option.some.inj e2
      subst ep
      by_cases c : p = o
      · rw [c]
        exact ⟨fun _ => List.mem_cons_self, fun _ => List.mem_cons_self⟩
      · have h2 := h'.2
        rw [he p c] at h2
        have := ih l' (P p) h.2 h2
        rw [List.mem_cons, List.mem_cons, this]
theorem po_move (hw : wO V 0) (hw' : wO V' 0) (hp : PoMove V p1 p2 V' a) : tot V' = tot V ∧ ∃ o s, p1 = nI o ∧ p2 = nI s ∧ hv V.1.2.2.2.2 o = true ∧ hv V'.1.2.2.2.2 o = true ∧ hv V'.1.2.2.2.2 s = true ∧ o ≠ 0 ∧ V'.1.2.2.2.2 o = some s ∧ siz V'.1.1 V'.1.2.2.2.2 o = siz V.1.1 V.1.2.2.2.2 o ∧ siz V'.1.1 V'.1.2.2.2.2 s = a := by
  obtain ⟨o, s, e1, e2, ho, hs, h0, hne, hni, -, ea, e⟩ := hp
  have hP : V'.1.2.2.2.2 = uN V.1.2.2.2.2 o (some s) := by rw [e]
  have hAA : V'.1.1 = V.1.1 := by rw [e]
  have hPo : V'.1.2.2.2.2 o = some s := by rw [hP, uN_s]
  have hPj : ∀ j, j ≠ o → V'.1.2.2.2.2 j = V.1.2.2.2.2 j := fun j hj => by rw [hP, uN_o hj]
  refine ⟨by rw [e]; rfl, o, s, e1, e2, ho, hv_some hPo, ?_, h0, hPo, ?_, by rw [hAA, hP, ea]⟩
  · have : hv V'.1.2.2.2.2 s = hv V.1.2.2.2.2 s := by
      unfold hv
      rw [hPj s (fun q => hne q.symm)]
    rw [this]; exact hs
  · unfold siz
    rw [hAA]
    congr 1
    refine sr_congr _ _ (fun j _ _ => ?_)
    have : o ∈ ch V'.1.2.2.2.2 j ↔ o ∈ ch V.1.2.2.2.2 j := by
      by_cases c : j = o
      · rw [c]
        exact ⟨fun q => absurd q (ch_self hw'.1 o), fun q => absurd q (ch_self hw.1 o)⟩
      · have h1 := (ch_cX hw.1 j).1
        have h2 := (ch_cX hw'.1 j).1
        rw [hPj j c] at h2
        exact (ch_upto hPj _ _ _ h1 h2).symm
    by_cases c : o ∈ ch V.1.2.2.2.2 j
    · rw [i1_t c, i1_t (this.mpr c)]
    · rw [i1_f c, i1_f (fun q => c (this.mp q))]
theorem po_fire (hw : wO V 0) (hp : PoFire V p1 V' a) : tot V' = tot V ∧ ∃ o, p1 = nI o ∧ o < 12 ∧ hv V.1.2.2.2.2 o = true ∧ hv V'.1.2.2.2.2 o = false ∧ a = sr (fun q => i1 (V.1.2.2.2.2 q = some o)) 0 V.1.1 ∧ cntV V' + 1 = cntV V := by
  obtain ⟨o, e1, ho, h0, ea, e⟩ := hp
  have hP : V'.1.2.2.2.2 = delP V.1.2.2.2.2 o := by rw [e]; rfl
  have hAA : V'.1.1 = V.1.1 := by rw [e]; rfl
  have hh := hv_del hw.1 ho h0
  have hoA := hv_lt hw.1 ho
  have hA := hw.1.2.1
  refine ⟨by rw [e]; exact (lvs_wO hw ho h0).2.2, o, e1, by omega, ho, by rw [hP, hh, if_pos rfl], ea, ?_⟩
  unfold cntV
  rw [hAA, hP]
  have h1 : sr (fun q => i1 (hv V.1.2.2.2.2 q = true)) 0 V.1.1 = sr (fun q => i1 (hv (delP V.1.2.2.2.2 o) q = true) + (if q = o then 1 else 0)) 0 V.1.1 := by
    refine sr_congr _ _ (fun j _ _ => ?_)
    rw [hh]
    by_cases c : j = o
    · rw [if_pos c, if_pos c, c, i1_t ho, i1_f (by decide)]
    · rw [if_neg c, if_neg c, Nat.add_zero]
  rw [h1, sr_add, sr_one, if_pos ⟨Nat.zero_le _, by omega⟩]
theorem po_send (hp : PoSend V p1 p2 V' a) : tot V' = tot V + 1 ∧ a = V.2.1.length ∧ ∃ o s v, p1 = nI o ∧ p2 = nI s ∧ V'.2.1[a]? = some (o, s, v) := by
  obtain ⟨o, s, v, e1, e2, -, -, -, -, ea, e⟩ := hp
  have hK : V'.2.1 = V.2.1 ++ [(o, s, v)] := by rw [e]
  refine ⟨?_, ea, o, s, v, e1, e2, ?_⟩
  · rw [e]
    unfold tot
    rw [List.length_append]
    rfl
  · rw [hK, ea, List.getElem?_append_right (Nat.le_refl _), Nat.sub_self]
    rfl
theorem po_book (hp : PoBook V V' a) : tot V' = tot V := by
  obtain ⟨B, e⟩ := hp
  rw [e]; rfl
end After
/-! the way of a single order -/
section Way9
variable {A : Nat} {R L : Nat → Nat} {P : Nat → Option Nat}
theorem cX_up {n h : Nat} (e : P n = some h) : ∀ (l : List Nat) (x : Option Nat), cX P x l → n ∈ l → h ∈ l := by
  intro l
  induction l with
  | nil => intro x _ q; cases q
  | cons p l ih =>
    intro x hc q
    rcases List.mem_cons.mp q with c | c
    · have h2 := hc.2
      rw [← c, e] at h2
      cases l with
      | nil => cases h2
      | cons p' l' =>
        have := Option.some.inj h2.1
        rw [this]
        exact List.mem_cons_of_mem _ List.mem_cons_self
    · exact List.mem_cons_of_mem _ (ih _ hc.2 c)
theorem ch_len (hw : wT A R P) : ∀ (l : List Nat) (x : Option Nat), cX P x l → ∀ h ∈ l, (ch P h).length < l.length := by
  intro l
  induction l with
  | nil => intro x _ h q; cases q
  | cons p l ih =>
    intro x hc h q
    rw [List.length_cons]
    rcases List.mem_cons.mp q with c | c
    · rw [c, ch_eq hw hc.2]
      exact Nat.lt_succ_self _
    · exact Nat.lt_succ_of_lt (ih _ hc.2 h c)
theorem lea_all (hw : wT A R P) {h : Nat} : ∀ (l : List Nat) (o v : Nat), cX P (P o) l → ∀ x, (x = o ∨ x ∈ l) → h ∈ ch P x → lea L h v o l ≤ L x := by
  intro l
  induction l with
  | nil =>
    intro o v hc x hx hin
    rcases hx with c | c
    · rw [c, ch_none hc] at hin; cases hin
    · cases c
  | cons p l ih =>
    intro o v hc x hx hin
    have hch := ch_eq hw hc
    unfold lea
    by_cases c : o = h
    · exfalso
      rcases hx with c2 | c2
      · rw [c2, c] at hin
        exact ch_self hw h hin
      · rw [← hch, c] at c2
        exact (ch_anti hw c2).1 hin
    · rw [if_neg c]
      show lea L h (if L o < v then L o else v) p l ≤ L x
      rcases hx with c2 | c2
      · have h1 := lea_le L (t := h) l p (if L o < v then L o else v)
        have h2 : (if L o < v then L o else v) ≤ L o := by split <;> omega
        rw [c2]
        omega
      · exact ih p _ hc.2 x (List.mem_cons.mp c2) hin
end Way9
theorem hrs_stop {x : AN × Nat} (h : ¬ x.2 < x.1.2.1.length) (n : Nat) : hrs n x = x := by
  cases n with
  | zero => rfl
  | succ n => exact if_neg h
section One9
variable {V : AN} {h t sv n : Nat}
theorem one_go (hK : V.2.1 = [(h, t, sv)]) (hb : bf h t (ch V.1.2.2.2.2 t) = some n) (hs : sv ≤ V.1.2.2.1 n) : one V = if n = t then tick (vExe V 0 n) else tick (vPass V 0 n (h, t, sv)) := by
  have e0 : V.2.1[0]? = some (h, t, sv) := by rw [hK]; rfl
  have hv1 : vis1 V 0 = if n = t then (vExe V 0 n, 0) else (vPass V 0 n (h, t, sv), 0 + 1) := by
    simp only [vis1, e0, hb]
    rw [if_pos hs]
  have h6 : hrs 6 (V, 0) = hrs 5 (vis1 V 0) := if_pos (by show 0 < V.2.1.length; rw [hK]; exact Nat.zero_lt_succ _)
  unfold one
  rw [h6, hv1]
  by_cases c : n = t
  · rw [if_pos c, if_pos c, hrs_stop]
    show ¬ 0 < (V.2.1.eraseIdx 0).length
    rw [hK]
    exact Nat.lt_irrefl 0
  · rw [if_neg c, if_neg c, hrs_stop]
    show ¬ 0 + 1 < (V.2.1.set 0 (n, t, sv)).length
    rw [hK]
    exact Nat.lt_irrefl 1
theorem nil_hours : ∀ (m : Nat) (V : AN), V.2.1 = [] → (hours m V).2.2.2.2.1 = V.2.2.2.2.1 := by
  intro m
  induction m with
  | zero => intro V _; rfl
  | succ m ih =>
    intro V hK
    have h6 : hrs 6 (V, 0) = (V, 0) := hrs_stop (by show ¬ 0 < V.2.1.length; rw [hK]; decide) 6
    show (hours m (one V)).2.2.2.2.1 = _
    have e1 : one V = tick V := by unfold one; rw [h6]
    rw [ih (one V) (by rw [e1]; exact hK), e1]
    rfl
/-- nobody on the way refuses -/
def wayC (V : AN) (h t sv : Nat) : Prop := ∀ x, (x = t ∨ x ∈ ch V.1.2.2.2.2 t) → h ∈ ch V.1.2.2.2.2 x → sv ≤ V.1.2.2.1 x
theorem way_hours {t sv : Nat} : ∀ (m : Nat) (V : AN) (h d : Nat), wT V.1.1 V.1.2.1 V.1.2.2.2.2 → V.2.1 = [(h, t, sv)] → t < V.1.1 → h ∈ ch V.1.2.2.2.2 t → wayC V h t sv → (ch V.1.2.2.2.2 t).length = (ch V.1.2.2.2.2 h).length + d →
    (d ≤ m → (hours m V).2.2.2.2.1 = V.2.2.2.2.1 + 1) ∧ (m < d → (hours m V).2.2.2.2.1 = V.2.2.2.2.1 ∧ (hours m V).1.2.2.2.2 = V.1.2.2.2.2 ∧ ∃ n, (hours m V).2.1 = [(n, t, sv)] ∧ n ∈ ch V.1.2.2.2.2 t ∧ (ch V.1.2.2.2.2 n).length = (ch V.1.2.2.2.2 h).length + m) := by
  intro m
  induction m with
  | zero =>
    intro V h d hw hK htA hin hC hd
    have h1 := ch_len hw _ _ (ch_cX hw t).1 h hin
    exact ⟨fun q => by omega, fun _ => ⟨rfl, rfl, h, hK, hin, rfl⟩⟩
  | succ m ih =>
    intro V h d hw hK htA hin hC hd
    obtain ⟨n, hb, hn⟩ := bf_some (ch V.1.2.2.2.2 t) t hin
    obtain ⟨-, b2, b3, b4, b5, b6⟩ := bf_in hw htA hb
    have hcn := ch_some hw b2
    have hcl : (ch V.1.2.2.2.2 n).length = (ch V.1.2.2.2.2 h).length + 1 := by rw [hcn, List.length_cons]
    have hs : sv ≤ V.1.2.2.1 n := hC n hn (by rw [hcn]; exact List.mem_cons_self)
    have h1 := one_go hK hb hs
    show (d ≤ m + 1 → (hours m (one V)).2.2.2.2.1 = V.2.2.2.2.1 + 1) ∧ (m + 1 < d → (hours m (one V)).2.2.2.2.1 = V.2.2.2.2.1 ∧ (hours m (one V)).1.2.2.2.2 = V.1.2.2.2.2 ∧ ∃ n, (hours m (one V)).2.1 = [(n, t, sv)] ∧ n ∈ ch V.1.2.2.2.2 t ∧ (ch V.1.2.2.2.2 n).length = (ch V.1.2.2.2.2 h).length + (m + 1))
    by_cases c : n = t
    · rw [if_pos c] at h1
      rw [c] at hcl
      refine ⟨fun _ => ?_, fun q => by omega⟩
      rw [nil_hours m (one V) (by rw [h1]; show V.2.1.eraseIdx 0 = []; rw [hK]; rfl), h1]
      rfl
    · rw [if_neg c] at h1
      have hnt := hn.resolve_left c
      have hlt := ch_len hw _ _ (ch_cX hw t).1 h hin
      have hV1 : (one V).1 = V.1 := by rw [h1]; rfl
      have hE1 : (one V).2.2.2.2.1 = V.2.2.2.2.1 := by rw [h1]; rfl
      have hK1 : (one V).2.1 = [(n, t, sv)] := by rw [h1]; show V.2.1.set 0 (n, t, sv) = _; rw [hK]; rfl
      have hx := ih (one V) n (d - 1) (by rw [hV1]; exact hw) hK1 (by rw [hV1]; exact htA) (by rw [hV1]; exact hnt) (by
        unfold wayC
        rw [hV1]
        intro x hx hnx
        exact hC x hx (cX_up b2 _ _ (ch_cX hw x).1 hnx)) (by rw [hV1]; omega)
      rw [hE1, hV1] at hx
      obtain ⟨x1, x2⟩ := hx
      refine ⟨fun q => x1 (by omega), fun q => ?_⟩
      obtain ⟨y1, y2, n2, y3, y4, y5⟩ := x2 (by omega)
      exact ⟨y1, y2, n2, y3, y4, by omega⟩
end One9
theorem po_pass {V V' : AN} {a : Nat} {p1 : Int32} (hw : wO V 0) (hp : PoPass V p1 V' a) : tot V' = tot V ∧ V'.2.2.2.2.1 = V.2.2.2.2.1 + a := by
  obtain ⟨m, -, -, -, e, ea, hle⟩ := hp
  rw [e]
  exact ⟨(hours_wO m V 0 hw).2.1, by omega⟩
/-- the way of the only order, as it is asked for: none, or so long -/
theorem q_way {V : AN} {k : CS} (h : kq V k) {e : ON} (hK : V.2.1 = [e]) : ∃ v, fL_hoursFor k (nI e.1) (nI e.2.1) = some (v, k) ∧ (v ≤ 0 ∨ (e.1 ∈ ch V.1.2.2.2.2 e.2.1 ∧ hv V.1.2.2.2.2 e.1 = true ∧ hv V.1.2.2.2.2 e.2.1 = true ∧ ∃ d, 1 ≤ d ∧ d < 20 ∧ v = nI d ∧ (ch V.1.2.2.2.2 e.2.1).length = (ch V.1.2.2.2.2 e.1).length + d)) := by
  have hw := h.2.1
  have hA := hw.2.1
  obtain ⟨o1, o2, o3⟩ := h.2.2.2.2.2.2.1 e (by rw [hK]; exact List.mem_cons_self)
  by_cases c1 : hv V.1.2.2.2.2 e.2.1 = true
  · by_cases c2 : e.1 ∈ ch V.1.2.2.2.2 e.2.1
    · have h1 := ch_len hw _ _ (ch_cX hw e.2.1).1 e.1 c2
      have h2 := (ch_cX hw e.2.1).2
      refine ⟨_, q_hoursFor_t h o1 c1 c2, Or.inr ⟨c2, o1, c1, (ch V.1.2.2.2.2 e.2.1).length - (ch V.1.2.2.2.2 e.1).length, by omega, by omega, n_sub (by omega), by omega⟩⟩
    · exact ⟨_, q_hoursFor_n h o1 c1 c2, Or.inl (by decide)⟩
  · refine ⟨_, q_hoursFor_f2 h o1 (fun ⟨o, q, ho⟩ => c1 ?_), Or.inl (by decide)⟩
    have := hv_lt hw ho
    rw [(nI_eq (by omega) (by omega)).mp q]
    exact ho
