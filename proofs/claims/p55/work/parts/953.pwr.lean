/-! the class writes a command -/
def yW (n : Nat) (τ : OS) : Prop := τ.1 1 = nI n ∧ ∀ i, i < n → ∃ x, x < 128 ∧ τ.2 0 i = nI x
theorem y_one {n x : Nat} {τ : OS} (h : yW n τ) (hn : n < 60) (hx : x < 128) : ∃ τ', fX6_add τ (nI x) = some (1, τ') ∧ yW (n + 1) τ' ∧ τ'.2 0 n = nI x := by
  obtain ⟨h1, h2⟩ := h
  obtain ⟨s1, s2⟩ := chr_s x hx
  have e1 : os_f τ 1 = nI n := h1
  have e2 : os_f (os_sa τ 0 n (nI x)) 1 + 1 = nI (n + 1) := by
    show τ.1 1 + 1 = _
    rw [h1, nI_1]
  unfold fX6_add
  rw [e1, if_pos (show nI n < (60 : Int32) from (nI_ltI (b := 60) (by omega) (by decide)).mpr hn), gx_chk_t (nI_in hn (by decide)), nI_clamp (by omega), s1, e2]
  refine ⟨_, rfl, ⟨sf_same, fun i hi => ?_⟩, ?_⟩
  · show ∃ x_1, x_1 < 128 ∧ (os_sa τ 0 n (nI x)).2 0 i = nI x_1
    by_cases c : i = n
    · rw [c, sa_same]; exact ⟨x, hx, rfl⟩
    · rw [sa_i c]; exact h2 i (by omega)
  · show (os_sa τ 0 n (nI x)).2 0 n = nI x
    exact sa_same
theorem w_dig : ∀ o, o < 12 → ((((48 : Int32) + (nI o - nI o / (10 : Int32) * (10 : Int32))).toUInt32 % 65536).toInt32 = nI (48 + o % 10)) ∧ ((48 : Int32) + (nI o - nI o / (10 : Int32) * (10 : Int32)) = nI (48 + o % 10)) ∧ ((((48 : Int32) + (nI o / (10 : Int32))).toUInt32 % 65536).toInt32 = nI (48 + o / 10)) ∧ ((48 : Int32) + (nI o / (10 : Int32)) = nI (48 + o / 10)) := by decide
theorem y_num {n o : Nat} {τ : OS} (h : yW n τ) (ho : o < 12) (hn : n + 2 ≤ 60) : ∃ τ' n', fX6_addNumber τ (nI o) = some τ' ∧ yW n' τ' ∧ n + 1 ≤ n' ∧ n' ≤ n + 2 ∧ τ'.2 0 (n' - 1) = nI (48 + o % 10) := by
  obtain ⟨d1, d2, d3, d4⟩ := w_dig o ho
  unfold fX6_addNumber fX6_addNumber_19
  rw [d1, d3]
  by_cases c : o < 10
  · obtain ⟨τ', a1, a3, a4⟩ := y_one (x := 48 + o % 10) h (by omega) (by omega)
    rw [if_pos (show nI o < (10 : Int32) from (nI_ltI (b := 10) (by omega) (by decide)).mpr c), a1, gx_b_some]
    exact ⟨τ', n + 1, rfl, a3, by omega, by omega, a4⟩
  · obtain ⟨τ1, a1, a3, a4⟩ := y_one (x := 48 + o / 10) h (by omega) (by omega)
    obtain ⟨τ', b1', b3, b4⟩ := y_one (x := 48 + o % 10) a3 (by omega) (by omega)
    rw [if_neg (show ¬ nI o < (10 : Int32) from fun q => c ((nI_ltI (b := 10) (by omega) (by decide)).mp q)), a1, gx_b_some]
    simp only []
    rw [b1', gx_b_some]
    exact ⟨τ', n + 2, rfl, b3, by omega, by omega, b4⟩
section Wy
variable {A : Nat} {R L F : Nat → Nat} {P : Nat → Option Nat} {ω : OS}
def w4 (A : Nat) (P : Nat → Option Nat) (o c : Nat) : Nat := if P c = some o then 4 * siz A P c else 0
def wu (P : Nat → Option Nat) (o c : Nat) : Nat := i1 (P c = some o)
theorem y_loop (hw : wT A R P) (hc : zO A R L F P ω) {o lev : Nat} (ho : o < A) (hlev : lev < 12) (rc : (OS × OS) → Int32 → Int32 → Option (OS × OS))
    (hrec : ∀ (c n : Nat) (τ : OS), c < A → P c = some o → yW n τ → n + 4 * siz A P c ≤ 61 → ∃ τ' n', rc (ω, τ) (nI c) (nI (lev + 1)) = some (ω, τ') ∧ yW n' τ' ∧ n + 1 ≤ n' ∧ n' + 1 ≤ n + 4 * siz A P c) :
    ∀ (k i fu n x0 : Nat) (f : Bool) (τ : OS), i + k = A → k < fu → yW n τ → 1 ≤ n → (f = false → τ.2 0 (n - 1) = nI x0) → n + sr (w4 A P o) i k + 1 ≤ 60 → ∃ τ' n', fX3_write_11 rc fu (ω, τ) (nI o) (nI lev) (b1 f) (nI i) = some (ω, τ') ∧ yW n' τ' ∧ n ≤ n' ∧ n' ≤ n + sr (w4 A P o) i k + 1 ∧ τ'.2 0 (n' - 1) = nI (if f = true ∨ 0 < sr (wu P o) i k then 41 else x0) := by
  have hA := hw.2.1
  intro k
  induction k with
  | zero =>
    intro i fu n x0 f τ hi hfu hz h1 hx hn
    obtain ⟨m, rfl⟩ : ∃ m, fu = m + 1 := ⟨fu - 1, by omega⟩
    have hs : sr (w4 A P o) i 0 = 0 := rfl
    have hu : sr (wu P o) i 0 = 0 := rfl
    rw [fX3_write_11_s, show os_f (ω, τ).1 5 = nI A from hc.1, n_le (by omega) (by omega), if_pos (by omega)]
    unfold fX3_write_73
    cases f with
    | false =>
      rw [show b1 false = 0 from rfl, if_pos rfl]
      refine ⟨τ, n, rfl, hz, by omega, by omega, ?_⟩
      rw [hx rfl, if_neg (by rw [hu]; simp)]
    | true =>
      obtain ⟨τ', a1, a3, a4⟩ := y_one (x := 41) hz (by omega) (by omega)
      rw [show b1 true = 1 from rfl, if_neg one0, show fX6_add (ω, τ).2 (41 : Int32) = some (1, τ') from a1, gx_b_some]
      refine ⟨τ', n + 1, rfl, a3, by omega, by omega, ?_⟩
      rw [if_pos (Or.inl rfl)]
      exact a4
  | succ k ih =>
    intro i fu n x0 f τ hi hfu hz h1 hx hn
    obtain ⟨m, rfl⟩ : ∃ m, fu = m + 1 := ⟨fu - 1, by omega⟩
    have hs : sr (w4 A P o) i (k + 1) = w4 A P o i + sr (w4 A P o) (i + 1) k := rfl
    have hu : sr (wu P o) i (k + 1) = wu P o i + sr (wu P o) (i + 1) k := rfl
    rw [hs] at hn
    rw [hs, hu]
    rw [fX3_write_11_s, show os_f (ω, τ).1 5 = nI A from hc.1, n_le (by omega) (by omega), if_neg (show ¬ A ≤ i by omega), if_neg (show ¬ (12 : Int32) ≤ nI lev from nI_ge (b := 12) (by omega) (by decide)), gx_chk_t (nI_in (by omega) (by decide)), show os_a (ω, τ).1 3 (nI i).toNatClampNeg = pI (P i) from c_sup hA hc (by omega), nI_1, nI_1]
    by_cases e : P i = some o
    · have hw4 : w4 A P o i = 4 * siz A P i := if_pos e
      have hwu : wu P o i = 1 := i1_t e
      rw [hw4] at hn
      rw [hw4, hwu]
      have hsz : 1 ≤ siz A P i := by unfold siz; omega
      rw [if_pos (show pI (P i) = nI o from by rw [e]; rfl)]
      have fin : ∀ (x : Nat), x < 128 → ∃ τ1, fX6_add τ (nI x) = some (1, τ1) ∧ ∃ τ' n', gx_b (rc (ω, τ1) (nI i) (nI (lev + 1))) (fun r64 => fX3_write_11 rc m r64 (nI o) (nI lev) 1 (nI (i + 1))) = some (ω, τ') ∧ yW n' τ' ∧ n ≤ n' ∧ n' ≤ n + (4 * siz A P i + sr (w4 A P o) (i + 1) k) + 1 ∧ τ'.2 0 (n' - 1) = nI 41 := by
        intro x hx
        obtain ⟨τ1, a1, a3, a4⟩ := y_one (x := x) hz (by omega) hx
        obtain ⟨τ2, n2, d1, d3, d4, d5⟩ := hrec i (n + 1) τ1 (by omega) e a3 (by omega)
        obtain ⟨τ', n', q1, q3, q4, q5, q6⟩ := ih (i + 1) m n2 0 true τ2 (by omega) (by omega) d3 (by omega) (fun q => by cases q) (by omega)
        refine ⟨τ1, a1, τ', n', ?_, q3, by omega, by omega, ?_⟩
        · rw [d1, gx_b_some]; exact q1
        · rw [q6, if_pos (Or.inl rfl)]
      rw [if_pos (Or.inr (by omega))]
      cases f with
      | false =>
        obtain ⟨τ1, a1, τ', n', b1', b2, b3, b4, b5⟩ := fin 40 (by omega)
        rw [show b1 false = 0 from rfl, if_pos rfl, show fX6_add (ω, τ).2 (40 : Int32) = some (1, τ1) from a1, gx_b_some]
        exact ⟨τ', n', b1', b2, b3, b4, b5⟩
      | true =>
        obtain ⟨τ1, a1, τ', n', b1', b2, b3, b4, b5⟩ := fin 44 (by omega)
        rw [show b1 true = 1 from rfl, if_neg one0, show fX6_add (ω, τ).2 (44 : Int32) = some (1, τ1) from a1, gx_b_some]
        exact ⟨τ', n', b1', b2, b3, b4, b5⟩
    · have hw4 : w4 A P o i = 0 := if_neg e
      have hwu : wu P o i = 0 := i1_f e
      rw [hw4, Nat.zero_add] at hn
      rw [hw4, hwu, Nat.zero_add, Nat.zero_add]
      have e8 : ¬ pI (P i) = nI o := by
        cases e9 : P i with
        | none => exact fun q => n_m1 (by omega) q.symm
        | some p =>
          have hp := (hw.2.2.2.2.1 i p e9).1
          intro q
          have := (nI_eq (by omega) (by omega)).mp (show nI p = nI o from q)
          exact e (by rw [e9, this])
      obtain ⟨τ', n', q1, q3, q4, q5, q6⟩ := ih (i + 1) m n x0 f τ (by omega) (by omega) hz h1 hx hn
      rw [if_neg e8]
      exact ⟨τ', n', q1, q3, q4, q5, q6⟩
theorem y_tree (hw : wT A R P) (hc : zO A R L F P ω) : ∀ (N o lev n : Nat) (τ : OS), o < A → R o < N → lev + R o ≤ 11 → yW n τ → n + 4 * siz A P o ≤ 61 → ∃ τ' n', fX3_write N (ω, τ) (nI o) (nI lev) = some (ω, τ') ∧ yW n' τ' ∧ n + 1 ≤ n' ∧ n' + 1 ≤ n + 4 * siz A P o ∧ τ'.2 0 (n' - 1) = nI (if 0 < sr (wu P o) 0 A then 41 else 48 + o % 10) := by
  have hA := hw.2.1
  intro N
  induction N with
  | zero => intro o lev n τ ho hr; omega
  | succ N ih =>
    intro o lev n τ ho hr hlev hz hn
    have hr1 := (hw.2.2.2.2.2 o ho).1
    have hsz : siz A P o = 1 + sr (fun c => if P c = some o then siz A P c else 0) 0 A := siz_rec hw o
    have h4 : sr (w4 A P o) 0 A = 4 * sr (fun c => if P c = some o then siz A P c else 0) 0 A := by
      have : ∀ (k i : Nat), sr (w4 A P o) i k = 4 * sr (fun c => if P c = some o then siz A P c else 0) i k := by
        intro k
        induction k with
        | zero => intro i; rfl
        | succ k ihk =>
          intro i
          simp only [sr, ihk (i + 1)]
          unfold w4
          split <;> omega
      exact this A 0
    obtain ⟨τ1, n1, a1, a3, a4, a5, a6⟩ := y_num hz (show o < 12 by omega) (by omega)
    obtain ⟨τ', n', d1, d3, d4, d5, d6⟩ := y_loop hw hc ho (lev := lev) (by omega) (fX3_write N) (fun c n τ hcA hpc hz9 hn9 => by
      obtain ⟨τ', n', q1, q2, q3, q4, -⟩ := ih c (lev + 1) n τ hcA (by have := (hw.2.2.2.2.1 c o hpc).2.2; omega) (by have := (hw.2.2.2.2.1 c o hpc).2.2; omega) hz9 hn9
      exact ⟨τ', n', q1, q2, q3, q4⟩) A 0 2000 n1 (48 + o % 10) false τ1 (by omega) (by omega) a3 (by omega) (fun _ => a6) (by omega)
    refine ⟨τ', n', ?_, d3, by omega, by omega, ?_⟩
    · rw [fX3_write, show fX6_addNumber (ω, τ).2 (nI o) = some τ1 from a1, gx_b_some]
      exact d1
    · rw [d6]
      by_cases c : 0 < sr (wu P o) 0 A
      · rw [if_pos c, if_pos (Or.inr c)]
      · rw [if_neg c, if_neg (fun q => q.elim (fun z => by cases z) c)]
end Wy
theorem siz_ch_le {A : Nat} {R : Nat → Nat} {P : Nat → Option Nat} (hw : wT A R P) (o : Nat) : siz A P o ≤ 12 := by
  have hA := hw.2.1
  have h1 : sr (fun q => i1 (o ∈ ch P q)) 0 A ≤ sr (fun q => if q = 0 then 0 else 1) 0 A := sr_le A 0 (fun q _ hq => by
    by_cases c : q = 0
    · rw [if_pos c, c, i1_f]
      · exact Nat.le_refl _
      · rw [ch_none hw.2.2.1]
        exact List.not_mem_nil
    · rw [if_neg c]
      unfold i1
      split <;> omega)
  have h2 : sr (fun q => (if q = 0 then 0 else 1) + (if q = 0 then 1 else 0)) 0 A = 1 * A := by
    rw [sr_congr (g := fun _ => 1) A 0 (fun j _ _ => by split <;> rfl), sr_k]
  rw [sr_add, sr_one, if_pos ⟨Nat.le_refl _, by have := hw.1; omega⟩] at h2
  unfold siz
  omega
/-- the class with another output -/
def kO (k : CS) (τ : OS) : CS := (k.1, k.2.1, k.2.2.1, k.2.2.2.1, k.2.2.2.2.1, τ, k.2.2.2.2.2.2)
theorem q_write {V : AN} {k : CS} (h : kq V k) {o : Nat} (ho : hv V.1.2.2.2.2 o = true) : ∃ τ n, 1 ≤ n ∧ n ≤ 60 ∧ fL_writeCommand k (nI o) = some (nI n, kO k τ) ∧ fL_outputChar (kO k τ) (nI (n - 1)) = some (nI (if 0 < sr (wu V.1.2.2.2.2 o) 0 V.1.1 then 41 else 48 + o % 10), kO k τ) := by
  obtain ⟨⟨w, hwl, hc⟩, hw⟩ := h
  have hA := hw.1.2.1
  have hoA := hv_lt hw.1 ho
  have hR := hw.1.2.2.2.2.2 o hoA
  have hsz : siz V.1.1 V.1.2.2.2.2 o ≤ 13 := siz_le hA o
  have hsz2 : siz V.1.1 V.1.2.2.2.2 o ≤ 12 := by
    have h1 := siz_ch_le hw.1 o
    omega
  have hz0 : yW 0 (os_sf k.2.2.2.2.2.1 1 0) := ⟨sf_same, fun i hi => absurd hi (by omega)⟩
  obtain ⟨τ', n', q1, q2, q3, q4, q5⟩ := y_tree hw.1 hc.1 16 o 0 0 (os_sf k.2.2.2.2.2.1 1 0) hoA (by omega) (by omega) hz0 (by omega)
  have hn : n' ≤ 60 := by omega
  refine ⟨τ', n', by omega, hn, ?_, ?_⟩
  · unfold fL_writeCommand fX8_writeCommand
    rw [c_req_t hw hc ho, gx_b_some]
    unfold fX6_clear
    rw [gx_b_some, show fX3_write 16 (k.1.2.1, os_sf k.2.2.2.2.2.1 1 (0 : Int32)) (nI o) (0 : Int32) = some (k.1.2.1, τ') from q1, gx_b_some]
    show gx_or (some (τ'.1 1, _)) _ _ = _
    rw [q2.1]
    rfl
  · have e1 : os_f (kO k τ').2.2.2.2.2.1 1 = nI n' := q2.1
    have hx : (if 0 < sr (wu V.1.2.2.2.2 o) 0 V.1.1 then 41 else 48 + o % 10) < 128 := by split <;> omega
    obtain ⟨s1, s2⟩ := chr_s _ hx
    have e2 : os_a (kO k τ').2.2.2.2.2.1 0 (nI (n' - 1)).toNatClampNeg = nI (if 0 < sr (wu V.1.2.2.2.2 o) 0 V.1.1 then 41 else 48 + o % 10) := by
      rw [nI_clamp (by omega)]; exact q5
    unfold fL_outputChar fX8_outputChar
    rw [e1, if_neg (nI_pos (by omega)), n_lt (by omega) (by omega), if_pos (by omega), gx_chk_t (nI_in (by omega) (by decide)), e2, gx_chk_t s1]
    rfl
