/-! an order is visited; an hour; hours: both sides -/
def vE (V : AN) (w : Nat) : AN := (V.1, V.2.1.eraseIdx w, V.2.2)
def vLost (V : AN) (w : Nat) : AN := (V.1, V.2.1.eraseIdx w, V.2.2.1, V.2.2.2.1, V.2.2.2.2.1, V.2.2.2.2.2.1, V.2.2.2.2.2.2 + 1)
def vRef (V : AN) (w n : Nat) : AN := ((V.1.1, V.1.2.1, V.1.2.2.1, uN V.1.2.2.2.1 n (V.1.2.2.2.1 n + 1), V.1.2.2.2.2), V.2.1.eraseIdx w, V.2.2.1, V.2.2.2.1, V.2.2.2.2.1, V.2.2.2.2.2.1 + 1, V.2.2.2.2.2.2)
def up2 (a : Nat) : Nat := if a + 2 < 100 then a + 2 else 100
def vExe (V : AN) (w n : Nat) : AN := ((V.1.1, V.1.2.1, uN V.1.2.2.1 n (up2 (V.1.2.2.1 n)), V.1.2.2.2.1, V.1.2.2.2.2), V.2.1.eraseIdx w, V.2.2.1, V.2.2.2.1, V.2.2.2.2.1 + 1, V.2.2.2.2.2.1, V.2.2.2.2.2.2)
def vPass (V : AN) (w n : Nat) (e : ON) : AN := (V.1, V.2.1.set w (n, e.2.1, e.2.2), V.2.2)
def vis1 (V : AN) (w : Nat) : AN × Nat := match V.2.1[w]? with
  | none => (V, w)
  | some e => match bf e.1 e.2.1 (ch V.1.2.2.2.2 e.2.1) with
    | none => (vLost V w, w)
    | some n => if e.2.2 ≤ V.1.2.2.1 n then (if n = e.2.1 then (vExe V w n, w) else (vPass V w n e, w + 1)) else (if V.1.2.2.2.1 n + 1 < 3 then (vRef V w n, w) else lvs n (vRef V w n) w)
theorem bf_par {P : Nat → Option Nat} {h n : Nat} : ∀ (l : List Nat) (o : Nat), cX P (P o) l → bf h o l = some n → P n = some h := by
  intro l
  induction l with
  | nil => intro o _ hb; cases hb
  | cons p l ih =>
    intro o hc hb
    by_cases e : p = h
    · simp only [bf, if_pos e] at hb
      cases hb
      rw [hc.1, e]
    · simp only [bf, if_neg e] at hb
      exact ih p hc.2 hb
section Hour
variable {A : Nat} {R L F : Nat → Nat} {P : Nat → Option Nat} {σ : OS} {V : AN} {w : Nat}
theorem bf_in {h o n : Nat} (hw : wT A R P) (ho : o < A) (hb : bf h o (ch P o) = some n) : h ∈ ch P o ∧ P n = some h ∧ n < A ∧ hv P n = true ∧ n ≠ 0 ∧ hv P o = true := by
  have hc := (ch_cX hw o).1
  have h1 : h ∈ ch P o := by
    rcases Decidable.em (h ∈ ch P o) with q | q
    · exact q
    · rw [bf_none _ o q] at hb; cases hb
  have h2 := bf_par _ o hc hb
  have h3 : hv P o = true := by
    cases e : P o with
    | none => rw [ch_none e] at h1; cases h1
    | some p => exact hv_some e
  refine ⟨h1, h2, hv_lt hw (hv_some h2), hv_some h2, fun q => ?_, h3⟩
  rw [q, hw.2.2.1] at h2
  cases h2
theorem bf_no {h o : Nat} (hb : bf h o (ch P o) = none) : h ∉ ch P o := fun q => by
  obtain ⟨n, h1, -⟩ := bf_some (ch P o) o q
  rw [hb] at h1
  cases h1
/-! what stays well formed -/
theorem wO_E (hw : wO V w) (hlt : w < V.2.1.length) : (V.2.1.eraseIdx w).length + 1 = V.2.1.length ∧ ∀ e ∈ V.2.1.eraseIdx w, hv V.1.2.2.2.2 e.1 = true ∧ e.2.1 < V.1.1 ∧ e.2.2 ≤ 100 := by
  have hlen : (V.2.1.eraseIdx w).length = V.2.1.length - 1 := List.length_eraseIdx_of_lt hlt
  exact ⟨by omega, fun e he => hw.2.2.2.2.2.1 e (List.mem_of_mem_eraseIdx he)⟩
theorem wO_lost (hw : wO V w) (hlt : w < V.2.1.length) : wO (vLost V w) w ∧ (vLost V w).2.1.length - w < V.2.1.length - w ∧ tot (vLost V w) = tot V := by
  obtain ⟨h1, h2⟩ := wO_E hw hlt
  obtain ⟨hT, hL, hF, hK, hwK, hE, hB⟩ := hw
  refine ⟨⟨hT, hL, hF, ?_, ?_, h2, hB⟩, ?_, ?_⟩
  · show (V.2.1.eraseIdx w).length ≤ 6; omega
  · show w ≤ (V.2.1.eraseIdx w).length; omega
  · show (V.2.1.eraseIdx w).length - w < _; omega
  · show V.2.2.2.2.1 + V.2.2.2.2.2.1 + (V.2.2.2.2.2.2 + 1) + (V.2.1.eraseIdx w).length = V.2.2.2.2.1 + V.2.2.2.2.2.1 + V.2.2.2.2.2.2 + V.2.1.length
    omega
theorem wO_exe {n : Nat} (hw : wO V w) (hlt : w < V.2.1.length) : wO (vExe V w n) w ∧ (vExe V w n).2.1.length - w < V.2.1.length - w ∧ tot (vExe V w n) = tot V := by
  obtain ⟨h1, h2⟩ := wO_E hw hlt
  obtain ⟨hT, hL, hF, hK, hwK, hE, hB⟩ := hw
  refine ⟨⟨hT, fun o ho => ⟨?_, (hL o ho).2⟩, hF, ?_, ?_, h2, hB⟩, ?_, ?_⟩
  · show uN V.1.2.2.1 n (up2 (V.1.2.2.1 n)) o ≤ 100
    by_cases e : o = n
    · rw [e, uN_s]; unfold up2; split <;> omega
    · rw [uN_o e]; exact (hL o ho).1
  · show (V.2.1.eraseIdx w).length ≤ 6; omega
  · show w ≤ (V.2.1.eraseIdx w).length; omega
  · show (V.2.1.eraseIdx w).length - w < _; omega
  · show V.2.2.2.2.1 + 1 + V.2.2.2.2.2.1 + V.2.2.2.2.2.2 + (V.2.1.eraseIdx w).length = V.2.2.2.2.1 + V.2.2.2.2.2.1 + V.2.2.2.2.2.2 + V.2.1.length
    omega
/-- the state between the third refusal and the dismissal is not well formed in the number of refusals alone -/
theorem wO_ref {n : Nat} (hw : wO V w) (hlt : w < V.2.1.length) (hn : hv V.1.2.2.2.2 n = true) : (V.1.2.2.2.1 n + 1 < 3 → wO (vRef V w n) w) ∧ (vRef V w n).2.1.length - w < V.2.1.length - w ∧ tot (vRef V w n) = tot V ∧ (¬ V.1.2.2.2.1 n + 1 < 3 → n ≠ 0 → wO (lvs n (vRef V w n) w).1 (lvs n (vRef V w n) w).2 ∧ (lvs n (vRef V w n) w).1.2.1.length - (lvs n (vRef V w n) w).2 ≤ (vRef V w n).2.1.length - w ∧ tot (lvs n (vRef V w n) w).1 = tot (vRef V w n)) := by
  obtain ⟨h1, h2⟩ := wO_E hw hlt
  have hw0 := hw
  obtain ⟨hT, hL, hF, hK, hwK, hE, hB⟩ := hw
  have hF2 := hF n hn
  have hL2 : wL V.1.1 V.1.2.2.1 (uN V.1.2.2.2.1 n (V.1.2.2.2.1 n + 1)) := fun o ho => by
    refine ⟨(hL o ho).1, ?_⟩
    by_cases e : o = n
    · rw [e, uN_s]; omega
    · rw [uN_o e]; exact (hL o ho).2
  have k1 : (V.2.1.eraseIdx w).length ≤ 6 := by omega
  have k2 : w ≤ (V.2.1.eraseIdx w).length := by omega
  have hto : tot (vRef V w n) = tot V := by
    show V.2.2.2.2.1 + (V.2.2.2.2.2.1 + 1) + V.2.2.2.2.2.2 + (V.2.1.eraseIdx w).length = V.2.2.2.2.1 + V.2.2.2.2.2.1 + V.2.2.2.2.2.2 + V.2.1.length
    omega
  refine ⟨fun h3 => ⟨hT, hL2, fun o ho => ?_, k1, k2, h2, hB⟩, ?_, hto, fun h3 h0 => ?_⟩
  · show uN V.1.2.2.2.1 n (V.1.2.2.2.1 n + 1) o ≤ 2
    by_cases e : o = n
    · rw [e, uN_s]; omega
    · rw [uN_o e]; exact hF o ho
  · show (V.2.1.eraseIdx w).length - w < _; omega
  · obtain ⟨d1, d2, d3, d4, d5⟩ := dis_ok n (V.2.1.eraseIdx w).length (V.2.1.eraseIdx w, w) (Nat.le_refl _) k2
    have d6 := d5 (fun i e hi he => by
      have h9 : i < (V.2.1.eraseIdx w).length := get_lt he
      exact absurd hi (Nat.not_le.mpr h9))
    have hh := hv_del hT hn h0
    have d2' : (dis n (V.2.1.eraseIdx w).length (V.2.1.eraseIdx w, w)).1.1.length + (dis n (V.2.1.eraseIdx w).length (V.2.1.eraseIdx w, w)).2 = (V.2.1.eraseIdx w).length := d2
    refine ⟨⟨delP_wT hT hn h0, hL2, fun q hq => ?_, ?_, d1, fun e he => ?_, hB⟩, d3, ?_⟩
    · have hq2 : hv (delP V.1.2.2.2.2 n) q = true := hq
      rw [hh] at hq2
      show uN V.1.2.2.2.1 n (V.1.2.2.2.1 n + 1) q ≤ 2
      by_cases e : q = n
      · rw [if_pos e] at hq2; cases hq2
      · rw [if_neg e] at hq2
        rw [uN_o e]
        exact hF q hq2
    · show (dis n (V.2.1.eraseIdx w).length (V.2.1.eraseIdx w, w)).1.1.length ≤ 6
      omega
    · obtain ⟨q1, q2, q3⟩ := h2 e (d4 e he)
      refine ⟨?_, q2, q3⟩
      show hv (delP V.1.2.2.2.2 n) e.1 = true
      rw [hh, if_neg (d6 e he)]
      exact q1
    · show V.2.2.2.2.1 + (V.2.2.2.2.2.1 + 1) + (V.2.2.2.2.2.2 + (dis n (V.2.1.eraseIdx w).length (V.2.1.eraseIdx w, w)).2) + (dis n (V.2.1.eraseIdx w).length (V.2.1.eraseIdx w, w)).1.1.length = V.2.2.2.2.1 + (V.2.2.2.2.2.1 + 1) + V.2.2.2.2.2.2 + (V.2.1.eraseIdx w).length
      omega
theorem wO_pass {n : Nat} {e : ON} (hw : wO V w) (he : V.2.1[w]? = some e) (hn : hv V.1.2.2.2.2 n = true) : wO (vPass V w n e) (w + 1) ∧ (vPass V w n e).2.1.length - (w + 1) < V.2.1.length - w ∧ tot (vPass V w n e) = tot V := by
  have hlt := get_lt he
  obtain ⟨hT, hL, hF, hK, hwK, hE, hB⟩ := hw
  have hlen : (V.2.1.set w (n, e.2.1, e.2.2)).length = V.2.1.length := List.length_set
  refine ⟨⟨hT, hL, hF, ?_, ?_, fun x hx => ?_, hB⟩, ?_, ?_⟩
  · show (V.2.1.set w (n, e.2.1, e.2.2)).length ≤ 6; omega
  · show w + 1 ≤ (V.2.1.set w (n, e.2.1, e.2.2)).length; omega
  · rcases List.mem_or_eq_of_mem_set hx with h | h
    · exact hE x h
    · rw [h]
      exact ⟨hn, (hE e (List.mem_of_getElem? he)).2⟩
  · show (V.2.1.set w (n, e.2.1, e.2.2)).length - (w + 1) < _; omega
  · show V.2.2.2.2.1 + V.2.2.2.2.2.1 + V.2.2.2.2.2.2 + (V.2.1.set w (n, e.2.1, e.2.2)).length = V.2.2.2.2.1 + V.2.2.2.2.2.1 + V.2.2.2.2.2.2 + V.2.1.length
    omega
theorem vis_wO (hw : wO V w) (hlt : w < V.2.1.length) : wO (vis1 V w).1 (vis1 V w).2 ∧ (vis1 V w).1.2.1.length - (vis1 V w).2 < V.2.1.length - w ∧ tot (vis1 V w).1 = tot V ∧ V.2.2.2.2.1 ≤ (vis1 V w).1.2.2.2.2.1 := by
  obtain ⟨e, he⟩ := lt_get hlt
  have hTA := hw.1
  have hE := hw.2.2.2.2.2.1 e (List.mem_of_getElem? he)
  cases hb : bf e.1 e.2.1 (ch V.1.2.2.2.2 e.2.1) with
  | none =>
    have ev : vis1 V w = (vLost V w, w) := by simp only [vis1, he, hb]
    rw [ev]
    obtain ⟨q1, q2, q3⟩ := wO_lost hw hlt
    exact ⟨q1, q2, q3, Nat.le_refl _⟩
  | some n =>
    obtain ⟨p1, p2, p3, p4, p5, p6⟩ := bf_in hTA hE.2.1 hb
    by_cases c1 : e.2.2 ≤ V.1.2.2.1 n
    · by_cases c2 : n = e.2.1
      · have ev : vis1 V w = (vExe V w n, w) := by simp only [vis1, he, hb, if_pos c1, if_pos c2]
        rw [ev]
        obtain ⟨q1, q2, q3⟩ := wO_exe (n := n) hw hlt
        exact ⟨q1, q2, q3, Nat.le_succ _⟩
      · have ev : vis1 V w = (vPass V w n e, w + 1) := by simp only [vis1, he, hb, if_pos c1, if_neg c2]
        rw [ev]
        obtain ⟨q1, q2, q3⟩ := wO_pass hw he p4
        exact ⟨q1, q2, q3, Nat.le_refl _⟩
    · obtain ⟨q1, q2, q3, q4⟩ := wO_ref hw hlt p4
      by_cases c2 : V.1.2.2.2.1 n + 1 < 3
      · have ev : vis1 V w = (vRef V w n, w) := by simp only [vis1, he, hb, if_neg c1, if_pos c2]
        rw [ev]
        exact ⟨q1 c2, q2, q3, Nat.le_refl _⟩
      · have ev : vis1 V w = lvs n (vRef V w n) w := by simp only [vis1, he, hb, if_neg c1, if_neg c2]
        rw [ev]
        obtain ⟨r1, r2, r3⟩ := q4 c2 p5
        exact ⟨r1, Nat.lt_of_le_of_lt r2 q2, r3.trans q3, Nat.le_refl _⟩
/-! the class -/
theorem zQ_E {K : List ON} {k : Nat} {τ : OS} (h : zQ (del1 k (K, k)).1 (del1 k (K, k)).2 τ) : zQ (K.eraseIdx k) k τ := by
  have e : (del1 k (K, k)).2 = k := by simp [del1]
  rw [e] at h
  exact h
theorem zO_F (hA : A ≤ 12) {n v : Nat} (hn : n < A) (h : zO A R L F P σ) : zO A R L (uN F n v) P (os_sa σ 2 n (nI v)) := by
  refine ⟨h.1, fun q hq => by rw [sa_j (by decide)]; exact h.2.1 q hq, fun q hq => ?_⟩
  obtain ⟨p1, p2, p3, p4⟩ := h.2.2 q hq
  rw [sa_j (q := 0) (by decide), sa_j (q := 1) (by decide), sa_j (q := 3) (by decide)]
  refine ⟨p1, p2, ?_, p4⟩
  by_cases e : q = n
  · rw [e, sa_same, uN_s]
  · rw [sa_i e, uN_o e]; exact p3
theorem zO_L (hA : A ≤ 12) {n v : Nat} (hn : n < A) (h : zO A R L F P σ) : zO A R (uN L n v) F P (os_sa σ 1 n (nI v)) := by
  refine ⟨h.1, fun q hq => by rw [sa_j (by decide)]; exact h.2.1 q hq, fun q hq => ?_⟩
  obtain ⟨p1, p2, p3, p4⟩ := h.2.2 q hq
  rw [sa_j (q := 0) (by decide), sa_j (q := 2) (by decide), sa_j (q := 3) (by decide)]
  refine ⟨p1, ?_, p3, p4⟩
  by_cases e : q = n
  · rw [e, sa_same, uN_s]
  · rw [sa_i e, uN_o e]; exact p2
theorem n_up2 {a : Nat} (ha : a ≤ 100) : (if nI a + 2 < (100 : Int32) then nI a + 2 else 100) = nI (up2 a) := by
  rw [show nI a + (2 : Int32) = nI (a + 2) from nI_add a 2, show (100 : Int32) = nI 100 from rfl, n_lt (by omega) (by omega), n_ite]
  rfl
theorem c_leave' {τ : NS} {o : Nat} (hT : wT V.1.1 V.1.2.1 V.1.2.2.2.2) (hK : V.2.1.length ≤ 6) (hwK : w ≤ V.2.1.length) (hE : ∀ e ∈ V.2.1, hv V.1.2.2.2.2 e.1 = true) (ho : hv V.1.2.2.2.2 o = true) (h0 : o ≠ 0) (h : zN V w τ) : ∃ τ', fX2_discharge τ (nI o) = some τ' ∧ zN (lvs o V w).1 (lvs o V w).2 τ' := by
  have hA := hT.2.1
  have hoA := hv_lt hT ho
  obtain ⟨g1, g2, g3, g4, g5, g6, g7⟩ := h
  obtain ⟨σ', r1, r2⟩ := c_orem hT ho h0 g1
  obtain ⟨τ', d1, d2, d3, d4, d5, d6, d7⟩ := c_dis18 (o := o) (by omega) V.2.1.length 2000 (V.2.1, w) V.2.2.2.2.2.2 (τ.1, σ', τ.2.2) hK (Nat.le_refl _) hwK (fun e he => by have := hv_lt hT (hE e he); omega) (by omega) g2 g7
  refine ⟨τ', ?_, ?_⟩
  · unfold fX2_discharge
    rw [r1, gx_b_some, show os_f τ.2.2.1 3 = nI V.2.1.length from g2.1, dn_l]
    exact d1
  · refine ⟨?_, d2, ?_, ?_, ?_, ?_, d3⟩
    · rw [d4]; exact r2
    · rw [d5]; exact g3
    · rw [d7 3 (by decide)]; exact g4
    · rw [d7 4 (by decide)]; exact g5
    · rw [d7 5 (by decide)]; exact g6
theorem c_vis {τ : NS} (hw : wO V w) (hlt : w < V.2.1.length) (h : zN V w τ) : ∃ τ', fX2_visitNext τ = some τ' ∧ zN (vis1 V w).1 (vis1 V w).2 τ' := by
  obtain ⟨e, he⟩ := lt_get hlt
  have hw0 := hw
  obtain ⟨hT, hL, hF, hK, hwK, hE, hB⟩ := hw
  have hA := hT.2.1
  obtain ⟨e1, e2, e3⟩ := hE e (List.mem_of_getElem? he)
  have h0 := h
  obtain ⟨g1, g2, g3, g4, g5, g6, g7⟩ := h
  have e1A := hv_lt hT e1
  have hwx : os_f τ.2.2.1 4 = nI w := g2.2.1
  obtain ⟨k1, k2, k3⟩ := g2.2.2 w e he
  have gw : gx_in (nI w) 6 := nI_in (by omega) (by decide)
  obtain ⟨σ', r1, r2⟩ := c_rem hK hlt hwK g2
  have r2 := zQ_E r2
  have ec : (nI w).toNatClampNeg = w := nI_clamp (by omega)
  unfold fX2_visitNext
  simp only [hwx, gx_chk_t gw, ec, show os_a τ.2.2.1 0 w = nI e.1 from k1, show os_a τ.2.2.1 1 w = nI e.2.1 from k2, show os_a τ.2.2.1 2 w = nI e.2.2 from k3]
  rw [c_now hT g1 (by omega) e2, gx_b_some]
  cases hb : bf e.1 e.2.1 (ch V.1.2.2.2.2 e.2.1) with
  | none =>
    have ev : vis1 V w = (vLost V w, w) := by simp only [vis1, he, hb]
    rw [ev, show pI none = -1 from rfl, if_pos rfl, r1, gx_b_some]
    refine ⟨_, rfl, g1, r2, g3, ?_, ?_, ?_, ?_⟩
    · show (os_sf τ.1 6 _).1 3 = _; rw [sf_k (by decide)]; exact g4
    · show (os_sf τ.1 6 _).1 4 = _; rw [sf_k (by decide)]; exact g5
    · show (os_sf τ.1 6 _).1 5 = _; rw [sf_k (by decide)]; exact g6
    · show (os_sf τ.1 6 _).1 6 = nI (V.2.2.2.2.2.2 + 1); rw [sf_same, show os_f τ.1 6 = nI V.2.2.2.2.2.2 from g7, nI_1]
  | some n =>
    obtain ⟨p1, p2, p3, p4, p5, p6⟩ := bf_in hT e2 hb
    have gn : gx_in (nI n) 12 := nI_in (by omega) (by decide)
    have hLn := (hL n p3).1
    rw [if_neg (pI_m1 rfl (by omega)), show pI (some n) = nI n from rfl]
    simp only [gx_chk_t gn]
    rw [c_loy hA g1 p3, n_le (by omega) (by omega), n_eq (by omega) (by omega)]
    by_cases c1 : e.2.2 ≤ V.1.2.2.1 n
    · rw [if_pos c1]
      by_cases c2 : n = e.2.1
      · have ev : vis1 V w = (vExe V w n, w) := by simp only [vis1, he, hb, if_pos c1, if_pos c2]
        rw [if_pos c2, ev, r1, gx_b_some, n_up2 hLn, nI_clamp (by omega)]
        refine ⟨_, rfl, zO_L hA p3 g1, r2, g3, ?_, ?_, ?_, ?_⟩
        · show (os_sf τ.1 4 _).1 3 = _; rw [sf_k (by decide)]; exact g4
        · show (os_sf τ.1 4 _).1 4 = nI (V.2.2.2.2.1 + 1); rw [sf_same, show os_f τ.1 4 = nI V.2.2.2.2.1 from g5, nI_1]
        · show (os_sf τ.1 4 _).1 5 = _; rw [sf_k (by decide)]; exact g6
        · show (os_sf τ.1 4 _).1 6 = _; rw [sf_k (by decide)]; exact g7
      · have ev : vis1 V w = (vPass V w n e, w + 1) := by simp only [vis1, he, hb, if_pos c1, if_neg c2]
        rw [if_neg c2, ev]
        refine ⟨_, rfl, g1, ⟨?_, ?_, fun k x hx => ?_⟩, g3, g4, g5, g6, g7⟩
        · show (os_sf (os_sa τ.2.2.1 0 w (nI n)) 4 _).1 3 = nI (V.2.1.set w (n, e.2.1, e.2.2)).length
          rw [sf_k (by decide), List.length_set]; exact g2.1
        · show (os_sf (os_sa τ.2.2.1 0 w (nI n)) 4 (os_f τ.2.2.1 4 + 1)).1 4 = nI (w + 1)
          rw [sf_same, hwx, nI_1]
        · have hx2 : (V.2.1.set w (n, e.2.1, e.2.2))[k]? = some x := hx
          show (os_sa τ.2.2.1 0 w (nI n)).2 0 k = _ ∧ (os_sa τ.2.2.1 0 w (nI n)).2 1 k = _ ∧ (os_sa τ.2.2.1 0 w (nI n)).2 2 k = _
          rw [sa_j (q := 1) (by decide), sa_j (q := 2) (by decide)]
          by_cases c3 : k = w
          · subst c3
            rw [List.getElem?_set_self hlt] at hx2
            cases hx2
            rw [sa_same]
            exact ⟨rfl, k2, k3⟩
          · rw [List.getElem?_set_ne (fun q => c3 q.symm)] at hx2
            rw [sa_i c3]
            exact g2.2.2 k x hx2
    · obtain ⟨q1, q2, q3, q4⟩ := wO_ref hw0 hlt p4
      have hFn := (hL n p3).2
      have hF2 := hF n p4
      have ef : os_a τ.2.1 2 (nI n).toNatClampNeg + 1 = nI (V.1.2.2.2.1 n + 1) := by rw [c_ref hA g1 p3, nI_1]
      rw [if_neg c1, r1, gx_b_some, ef, nI_clamp (by omega)]
      have eg : os_a (os_sa τ.2.1 2 n (nI (V.1.2.2.2.1 n + 1))) 2 n = nI (V.1.2.2.2.1 n + 1) := sa_same
      rw [eg, show (3 : Int32) = nI 3 from rfl, n_lt (by omega) (by omega)]
      have hz : zN (vRef V w n) w ((os_sf τ.1 5 (os_f τ.1 5 + 1)), os_sa τ.2.1 2 n (nI (V.1.2.2.2.1 n + 1)), (σ', τ.2.2.2)) := by
        refine ⟨zO_F hA p3 g1, r2, g3, ?_, ?_, ?_, ?_⟩
        · show (os_sf τ.1 5 _).1 3 = _; rw [sf_k (by decide)]; exact g4
        · show (os_sf τ.1 5 _).1 4 = _; rw [sf_k (by decide)]; exact g5
        · show (os_sf τ.1 5 _).1 5 = nI (V.2.2.2.2.2.1 + 1); rw [sf_same, show os_f τ.1 5 = nI V.2.2.2.2.2.1 from g6, nI_1]
        · show (os_sf τ.1 5 _).1 6 = _; rw [sf_k (by decide)]; exact g7
      by_cases c2 : V.1.2.2.2.1 n + 1 < 3
      · have ev : vis1 V w = (vRef V w n, w) := by simp only [vis1, he, hb, if_neg c1, if_pos c2]
        rw [if_pos c2, ev]
        exact ⟨_, rfl, hz⟩
      · have ev : vis1 V w = lvs n (vRef V w n) w := by simp only [vis1, he, hb, if_neg c1, if_neg c2]
        have k9 := wO_E hw0 hlt
        rw [if_neg c2, ev]
        obtain ⟨τ', t1, t2⟩ := c_leave' (V := vRef V w n) (w := w) (o := n) hT (by
          show (V.2.1.eraseIdx w).length ≤ 6
          omega) (by
          show w ≤ (V.2.1.eraseIdx w).length
          omega) (fun x hx => (k9.2 x hx).1) p4 p5 hz
        rw [t1]
        exact ⟨τ', rfl, t2⟩
end Hour
