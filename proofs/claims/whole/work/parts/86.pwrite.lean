/-! writeCommand: both sides write the same -/
def zWn (n : Nat) (t : OS) (σ : OS) : Prop := t.1 1 = nI n ∧ σ.1 11 = nI n ∧ ∀ i, i < n → t.2 0 i = σ.2 9 i ∧ ∃ x, x < 128 ∧ σ.2 9 i = nI x
def frW (σ σ' : OS) : Prop := (∀ k, k ≠ 11 → σ'.1 k = σ.1 k) ∧ ∀ q, q ≠ 9 → σ'.2 q = σ.2 q
theorem frW_rf {σ : OS} : frW σ σ := ⟨fun _ _ => rfl, fun _ _ => rfl⟩
theorem frW_tr {a b c : OS} (h : frW a b) (g : frW b c) : frW a c := ⟨fun k hk => (g.1 k hk).trans (h.1 k hk), fun q hq => (g.2 q hq).trans (h.2 q hq)⟩
theorem w_one {n x : Nat} {τ σ : OS} (h : zWn n τ σ) (hn : n < 60) (hx : x < 128) : ∃ τ' σ', fX6_add τ (nI x) = some (1, τ') ∧ fX9_writes σ (nI x) = some σ' ∧ zWn (n + 1) τ' σ' ∧ frW σ σ' := by
  obtain ⟨h1, h2, h3⟩ := h
  have en : (nI n).toNatClampNeg = n := nI_clamp (by omega)
  have e1 : os_f (os_sa τ 0 n (nI x)) 1 + 1 = nI (n + 1) := by
    show τ.1 1 + 1 = _
    rw [h1, nI_1]
  have e2 : os_f (os_sa σ 9 n (nI x)) 11 + 1 = nI (n + 1) := by
    show σ.1 11 + 1 = _
    rw [h2, nI_1]
  refine ⟨os_sf (os_sa τ 0 n (nI x)) 1 (nI (n + 1)), os_sf (os_sa σ 9 n (nI x)) 11 (nI (n + 1)), ?_, ?_, ⟨sf_same, sf_same, fun i hi => ?_⟩, fun k hk => sf_k hk, fun q hq => sa_j hq⟩
  · unfold fX6_add
    rw [show os_f τ 1 = nI n from h1, if_pos (show nI n < (60 : Int32) from (nI_ltI (b := 60) (by omega) (by decide)).mpr hn), gx_chk_t (nI_in (by omega) (by decide)), en, (chr_s x hx).1, e1]
  · unfold fX9_writes
    rw [show os_f σ 11 = nI n from h2, gx_chk_t (nI_in (by omega) (by decide)), en, e2]
  · show (os_sa τ 0 n (nI x)).2 0 i = (os_sa σ 9 n (nI x)).2 9 i ∧ ∃ y, y < 128 ∧ (os_sa σ 9 n (nI x)).2 9 i = nI y
    by_cases c : i = n
    · rw [c, sa_same, sa_same]
      exact ⟨rfl, x, hx, rfl⟩
    · rw [sa_i c, sa_i c]
      exact h3 i (by omega)
theorem w_dig : ∀ o, o < 12 → ((((48 : Int32) + (nI o - nI o / (10 : Int32) * (10 : Int32))).toUInt32 % 65536).toInt32 = nI (48 + o % 10)) ∧ ((48 : Int32) + (nI o - nI o / (10 : Int32) * (10 : Int32)) = nI (48 + o % 10)) ∧ ((((48 : Int32) + (nI o / (10 : Int32))).toUInt32 % 65536).toInt32 = nI (48 + o / 10)) ∧ ((48 : Int32) + (nI o / (10 : Int32)) = nI (48 + o / 10)) := by decide
theorem w_num {n o : Nat} {τ σ : OS} (rec : OS → Int32 → Option OS) (h : zWn n τ σ) (ho : o < 12) (hn : n + 2 ≤ 60) : ∃ τ' σ' n', fX6_addNumber τ (nI o) = some τ' ∧ (if nI o ≤ (9 : Int32) then fX9_writesTree_17 rec σ (nI o) else gx_b (fX9_writes σ ((48 : Int32) + (nI o / (10 : Int32)))) (fun r14 => fX9_writesTree_17 rec r14 (nI o))) = fX9_writesTree_32 rec 2000 σ' (nI o) (1 : Int32) (0 : Int32) ∧ zWn n' τ' σ' ∧ n' ≤ n + 2 ∧ frW σ σ' := by
  obtain ⟨d1, d2, d3, d4⟩ := w_dig o ho
  unfold fX6_addNumber fX6_addNumber_19 fX9_writesTree_17
  rw [d1, d2, d3, d4]
  by_cases c : o < 10
  · obtain ⟨τ', σ', a1, a2, a3, a4⟩ := w_one (x := 48 + o % 10) h (by omega) (by omega)
    rw [if_pos (show nI o < (10 : Int32) from (nI_ltI (b := 10) (by omega) (by decide)).mpr c), if_pos (show nI o ≤ (9 : Int32) from (nI_leI (b := 9) (by omega) (by decide)).mpr (by omega)), a1, a2, gx_b_some, gx_b_some]
    exact ⟨τ', σ', n + 1, rfl, rfl, a3, by omega, a4⟩
  · obtain ⟨τ1, σ1, a1, a2, a3, a4⟩ := w_one (x := 48 + o / 10) h (by omega) (by omega)
    obtain ⟨τ', σ', b1', b2, b3, b4⟩ := w_one (x := 48 + o % 10) a3 (by omega) (by omega)
    rw [if_neg (show ¬ nI o < (10 : Int32) from fun q => c ((nI_ltI (b := 10) (by omega) (by decide)).mp q)), if_neg (show ¬ nI o ≤ (9 : Int32) from fun q => by have := (nI_leI (b := 9) (by omega) (by decide)).mp q; omega), a1, a2, gx_b_some, gx_b_some]
    simp only []
    rw [b1', b2, gx_b_some, gx_b_some]
    exact ⟨τ', σ', n + 2, rfl, rfl, b3, by omega, frW_tr a4 b4⟩
section Wr
variable {A : Nat} {R L F : Nat → Nat} {P : Nat → Option Nat} {ω : OS}
def w4 (A : Nat) (P : Nat → Option Nat) (o c : Nat) : Nat := if P c = some o then 4 * siz A P c else 0
theorem zM_W {σ σ' : OS} (h : zM A R L F P (σ.2 1)) (g : frW σ σ') : zM A R L F P (σ'.2 1) := by rw [g.2 1 (by decide)]; exact h
theorem w_loop (hw : wT A R P) (hc : zO A R L F P ω) {o lev : Nat} (ho : o < A) (hlev : lev < 12) (rc : (OS × OS) → Int32 → Int32 → Option (OS × OS)) (rm : OS → Int32 → Option OS)
    (hrec : ∀ (c n : Nat) (τ σ : OS), c < A → P c = some o → zM A R L F P (σ.2 1) → zWn n τ σ → n + 4 * siz A P c ≤ 61 → ∃ τ' σ' n', rc (ω, τ) (nI c) (nI (lev + 1)) = some (ω, τ') ∧ rm σ (nI c) = some σ' ∧ zWn n' τ' σ' ∧ n' + 1 ≤ n + 4 * siz A P c ∧ frW σ σ') :
    ∀ (k i fu n : Nat) (f : Bool) (τ σ : OS), i + k = A → k < fu → zM A R L F P (σ.2 1) → zWn n τ σ → n + sr (w4 A P o) i k + 1 ≤ 60 → ∃ τ' σ' n', fX3_write_11 rc fu (ω, τ) (nI o) (nI lev) (b1 f) (nI i) = some (ω, τ') ∧ fX9_writesTree_32 rm fu σ (nI o) (b1 (!f)) (nI i) = some σ' ∧ zWn n' τ' σ' ∧ n' ≤ n + sr (w4 A P o) i k + 1 ∧ frW σ σ' := by
  have hA := hw.2.1
  intro k
  induction k with
  | zero =>
    intro i fu n f τ σ hi hfu hm hz hn
    obtain ⟨m, rfl⟩ : ∃ m, fu = m + 1 := ⟨fu - 1, by omega⟩
    have hs : sr (w4 A P o) i 0 = 0 := rfl
    rw [fX3_write_11_s, fX9_writesTree_32_s, show os_f (ω, τ).1 5 = nI A from hc.1, n_le (by omega) (by omega), if_pos (by omega), gx_chk_t gi0, m_A hm, n_le (by omega) (by omega), if_pos (by omega)]
    unfold fX3_write_73
    cases f with
    | false =>
      rw [show b1 false = 0 from rfl, if_pos rfl, show b1 (!false) = 1 from rfl, if_neg one0]
      exact ⟨τ, σ, n, rfl, rfl, hz, by omega, frW_rf⟩
    | true =>
      obtain ⟨τ', σ', a1, a2, a3, a4⟩ := w_one (x := 41) hz (by omega) (by omega)
      rw [show b1 true = 1 from rfl, if_neg one0, show b1 (!true) = 0 from rfl, if_pos rfl, show fX6_add (ω, τ).2 (41 : Int32) = some (1, τ') from a1, show fX9_writes σ (41 : Int32) = some σ' from a2, gx_b_some, gx_b_some]
      exact ⟨τ', σ', n + 1, rfl, rfl, a3, by omega, a4⟩
  | succ k ih =>
    intro i fu n f τ σ hi hfu hm hz hn
    obtain ⟨m, rfl⟩ : ∃ m, fu = m + 1 := ⟨fu - 1, by omega⟩
    have hs : sr (w4 A P o) i (k + 1) = w4 A P o i + sr (w4 A P o) (i + 1) k := rfl
    rw [hs] at hn
    rw [hs]
    rw [fX3_write_11_s, fX9_writesTree_32_s, show os_f (ω, τ).1 5 = nI A from hc.1, n_le (by omega) (by omega), if_neg (show ¬ A ≤ i by omega), if_neg (show ¬ (12 : Int32) ≤ nI lev from nI_ge (b := 12) (by omega) (by decide)), gx_chk_t (nI_in (by omega) (by decide)), show os_a (ω, τ).1 3 (nI i).toNatClampNeg = pI (P i) from c_sup hA hc (by omega), gx_chk_t gi0, m_A hm, n_le (by omega) (by omega), if_neg (show ¬ A ≤ i by omega), m_of0 hA hm (by omega), gx_b_some, m_of4 hA hm (by omega), gx_b_some, nI_1, nI_1]
    by_cases e : P i = some o
    · have hw4 : w4 A P o i = 4 * siz A P i := if_pos e
      rw [hw4] at hn
      rw [hw4]
      have hsz : 1 ≤ siz A P i := by unfold siz; omega
      rw [if_pos (show pI (P i) = nI o from by rw [e]; rfl), hv_some e, b1_t, if_neg one0, if_pos (show pI (P i) = nI o from by rw [e]; rfl)]
      cases f with
      | false =>
        obtain ⟨τ1, σ1, a1, a2, a3, a4⟩ := w_one (x := 40) hz (by omega) (by omega)
        obtain ⟨τ2, σ2, n2, d1, d2, d3, d4, d5⟩ := hrec i (n + 1) τ1 σ1 (by omega) e (zM_W hm a4) a3 (by omega)
        obtain ⟨τ', σ', n', q1, q2, q3, q4, q5⟩ := ih (i + 1) m n2 true τ2 σ2 (by omega) (by omega) (zM_W hm (frW_tr a4 d5)) d3 (by omega)
        rw [show b1 false = 0 from rfl, if_pos rfl, show b1 (!false) = 1 from rfl, if_neg one0, show fX6_add (ω, τ).2 (40 : Int32) = some (1, τ1) from a1, show fX9_writes σ (40 : Int32) = some σ1 from a2, gx_b_some, gx_b_some, d2, gx_b_some]
        simp only []
        rw [d1, gx_b_some]
        exact ⟨τ', σ', n', q1, q2, q3, by omega, frW_tr a4 (frW_tr d5 q5)⟩
      | true =>
        obtain ⟨τ1, σ1, a1, a2, a3, a4⟩ := w_one (x := 44) hz (by omega) (by omega)
        obtain ⟨τ2, σ2, n2, d1, d2, d3, d4, d5⟩ := hrec i (n + 1) τ1 σ1 (by omega) e (zM_W hm a4) a3 (by omega)
        obtain ⟨τ', σ', n', q1, q2, q3, q4, q5⟩ := ih (i + 1) m n2 true τ2 σ2 (by omega) (by omega) (zM_W hm (frW_tr a4 d5)) d3 (by omega)
        rw [show b1 true = 1 from rfl, if_neg one0, show b1 (!true) = 0 from rfl, if_pos rfl, show fX6_add (ω, τ).2 (44 : Int32) = some (1, τ1) from a1, show fX9_writes σ (44 : Int32) = some σ1 from a2, gx_b_some, gx_b_some, d2, gx_b_some]
        simp only []
        rw [d1, gx_b_some]
        exact ⟨τ', σ', n', q1, q2, q3, by omega, frW_tr a4 (frW_tr d5 q5)⟩
    · have hw4 : w4 A P o i = 0 := if_neg e
      rw [hw4, Nat.zero_add] at hn
      rw [hw4, Nat.zero_add]
      have e8 : ¬ pI (P i) = nI o := by
        cases e9 : P i with
        | none => exact fun q => n_m1 (by omega) q.symm
        | some p =>
          have hp := (hw.2.2.2.2.1 i p e9).1
          intro q
          have := (nI_eq (by omega) (by omega)).mp (show nI p = nI o from q)
          exact e (by rw [e9, this])
      obtain ⟨τ', σ', n', q1, q2, q3, q4, q5⟩ := ih (i + 1) m n f τ σ (by omega) (by omega) hm hz hn
      rw [if_neg e8, if_neg e8, ite_self]
      exact ⟨τ', σ', n', q1, q2, q3, q4, q5⟩
theorem w_tree (hw : wT A R P) (hc : zO A R L F P ω) : ∀ (N o lev n : Nat) (τ σ : OS), o < A → R o < N → lev + R o ≤ 11 → zM A R L F P (σ.2 1) → zWn n τ σ → n + 4 * siz A P o ≤ 61 → ∃ τ' σ' n', fX3_write N (ω, τ) (nI o) (nI lev) = some (ω, τ') ∧ fX9_writesTree N σ (nI o) = some σ' ∧ zWn n' τ' σ' ∧ n' + 1 ≤ n + 4 * siz A P o ∧ frW σ σ' := by
  have hA := hw.2.1
  intro N
  induction N with
  | zero => intro o lev n τ σ ho hr; omega
  | succ N ih =>
    intro o lev n τ σ ho hr hlev hm hz hn
    have hr1 := (hw.2.2.2.2.2 o ho).1
    have hsz : siz A P o = 1 + sr (fun c => if P c = some o then siz A P c else 0) 0 A := siz_rec hw o
    have h4 : sr (w4 A P o) 0 A = 4 * sr (fun c => if P c = some o then siz A P c else 0) 0 A := by
      have : ∀ (k i : Nat), sr (w4 A P o) i k = 4 * sr (fun c => if P c = some o then siz A P c else 0) i k := by
        intro k
        induction k with
        | zero => intro i; rfl
        | succ k ihk =>
          intro i
          simp only [sr, ihk (i + 1)]
          unfold w4
          split <;> omega
      exact this A 0
    obtain ⟨τ1, σ1, n1, a1, a2, a3, a4, a5⟩ := w_num (fX9_writesTree N) hz (show o < 12 by omega) (by omega)
    obtain ⟨τ', σ', n', d1, d2, d3, d4, d5⟩ := w_loop hw hc ho (lev := lev) (by omega) (fX3_write N) (fX9_writesTree N) (fun c n τ σ hcA hpc hm9 hz9 hn9 => ih c (lev + 1) n τ σ hcA (by have := (hw.2.2.2.2.1 c o hpc).2.2; omega) (by have := (hw.2.2.2.2.1 c o hpc).2.2; omega) hm9 hz9 hn9) A 0 2000 n1 false τ1 σ1 (by omega) (by omega) (zM_W hm a5) a3 (by omega)
    refine ⟨τ', σ', n', ?_, ?_, d3, by omega, frW_tr a5 d5⟩
    · rw [fX3_write, show fX6_addNumber (ω, τ).2 (nI o) = some τ1 from a1, gx_b_some]
      exact d1
    · rw [fX9_writesTree, a2]
      exact d2
end Wr
section AskW
variable {c : Nat} {k : CS} {σ : OS}
theorem ag_writeCommand (h : zR c k σ) (p1 : Int32) : Ag_writeCommand (zR (c + 60)) k σ p1 := by
  have h0 := h
  obtain ⟨V, S, Hs, ⟨w, a0, a1⟩, a2, a3, a4, a5, a6, a7, a8, a9, a10, a11, a12⟩ := h
  have hA := a3.1.2.1
  unfold Ag_writeCommand fX9_writeCommand fX8_writeCommand xX8_writeCommand
  rcases off_P (P := V.1.2.2.2.2) p1 with ⟨o, rfl, ho⟩ | hn
  · have hoA := hv_lt a3.1 ho
    have hR := (a3.1.2.2.2.2.2 o hoA).2
    have hsz := siz_le (A := V.1.1) (P := V.1.2.2.2.2) hA o
    obtain ⟨τ', σ', n', d1, d2, d3, d4, d5⟩ := w_tree a3.1 a1.1 16 o 0 0 (os_sf k.2.2.2.2.2.1 1 0) (os_sf (os_sf σ 0 0) 11 0) hoA (by omega) (by omega) a2.1 ⟨sf_same, sf_same, fun i hi => absurd hi (Nat.not_lt_zero _)⟩ (by omega)
    have f1 : ∀ i, i ≠ 0 → i ≠ 11 → σ'.1 i = σ.1 i := fun i h0 h11 => (d5.1 i h11).trans ((sf_k h11).trans (sf_k h0))
    rw [m_asked_t a3 a2 ho, gx_b_some, if_neg one0, d2, gx_b_some, c_req_t a3 a1 ho, gx_b_some]
    unfold fX6_clear
    rw [gx_b_some, show fX3_write 16 (k.1.2.1, os_sf k.2.2.2.2.2.1 1 0) (nI o) (0 : Int32) = some (k.1.2.1, τ') from d1, gx_b_some]
    refine ⟨_, _, rfl, Or.inl ⟨((k.1.1, (k.1.2.1, k.1.2.2)), (k.2.1, (k.2.2.1, (k.2.2.2.1, (k.2.2.2.2.1, (τ', k.2.2.2.2.2.2)))))), ?_, ?_, V, S, Hs, ⟨w, a0, a1⟩, ?_, a3, by omega, zV_le (by omega) (zV_mv a5 (f1 6 (by decide) (by decide)) (d5.2 3 (by decide))), a6, hG_mv a7 (f1 5 (by decide) (by decide)) (d5.2 4 (by decide)), hW_le (by omega) a8, zX_mv a9 (f1 10 (by decide) (by decide)) (d5.2 7 (by decide)), ⟨n', by omega, d3.1, d3.2.1, d3.2.2⟩, a11.trans (f1 12 (by decide) (by decide)).symm, a12.trans (f1 13 (by decide) (by decide)).symm⟩⟩
    · rw [show os_f (k.1.2.1, τ').2 1 = os_f σ' 11 from d3.1.trans d3.2.1.symm]
    · show σ'.1 0 = 0
      rw [d5.1 0 (by decide), sf_k (by decide)]
      exact sf_same
    · rw [d5.2 1 (by decide)]
      exact a2
  · obtain ⟨q1, q2⟩ := c_req_f a3 a1 hn
    rw [m_asked_f a3 a2 hn, gx_b_some, if_pos rfl, q1, q2, or_none]
    exact ⟨_, _, rfl, Or.inr ⟨_, rfl, sf_same, zR_0 (by omega) h0 1⟩⟩
end AskW
