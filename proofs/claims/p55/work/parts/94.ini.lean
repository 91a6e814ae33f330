/-! the two at the start -/
def q3_0 : OS := os_sf (os_sa (os_sa (os_sa (os_sa os_0 0 0 9) 1 0 100) 3 0 (-1)) 4 0 1) 5 1
theorem i_X3 : fX3_init = some q3_0 := by
  unfold fX3_init
  rw [gx_chk_t (by decide), gx_chk_t (by decide), gx_chk_t (by decide), gx_chk_t (by decide)]
  rfl
def q9_0 : OS := os_sa (os_sa (os_sa (os_sa (os_sa (os_sf (os_sf os_0 12 (-1)) 13 (-1)) 1 0 1) 1 7 1) 1 8 9) 1 9 100) 1 11 (-1)
theorem i_X9 : fX9_init = some q9_0 := by
  unfold fX9_init fX9_sets
  rw [gx_chk_t (by decide), gx_chk_t (by decide), gx_b_some, gx_chk_t (by decide), gx_b_some, gx_chk_t (by decide), gx_b_some, gx_chk_t (by decide), gx_b_some]
  rfl
def n_0 : NS := (os_0, q3_0, os_0, os_0)
def k_0 : CS := (n_0, n_0, n_0, os_0, os_0, os_0, (os_0, fun _ => n_0), os_k)
def V_0 : AN := ((1, fun _ => 9, fun _ => 100, fun _ => 0, fun _ => none), [], [], 0, 0, 0, 0)
theorem hv_n (o : Nat) : hv (fun _ => none) o = (o == 0) := by simp [hv]
theorem z_wO : wO V_0 0 := by
  refine ⟨⟨Nat.le_refl _, ?_, rfl, (fun _ _ => rfl), (fun o p h => ?_), (fun o _ => ?_)⟩, (fun o _ => ?_), (fun o _ => ?_), ?_, Nat.le_refl _, (fun e h => ?_), ?_, ?_, (fun e h => ?_)⟩
  · show 1 ≤ 12
    omega
  · cases h
  · show 1 ≤ 9 ∧ 9 ≤ 9
    omega
  · show 100 ≤ 100 ∧ 0 ≤ 3
    omega
  · show 0 ≤ 2
    omega
  · show 0 ≤ 6
    omega
  · cases h
  · show 0 ≤ 20
    omega
  · exact List.nodup_nil
  · cases h
theorem z_zN : zN V_0 0 n_0 := by
  refine ⟨⟨rfl, ?_, ?_⟩, ⟨rfl, rfl, (fun k e h => by cases h)⟩, ⟨[], List.Perm.refl _, rfl, (fun k e h => by cases h)⟩, rfl, rfl, rfl, rfl⟩
  · show ∀ o, o < 12 → q3_0.2 4 o = b1 (hv (fun _ => none) o)
    intro o ho
    rw [hv_n]
    revert o
    decide
  · show ∀ o, o < 1 → q3_0.2 0 o = nI 9 ∧ q3_0.2 1 o = nI 100 ∧ q3_0.2 2 o = nI 0 ∧ q3_0.2 3 o = -1
    decide
theorem z_zG : zG V_0 0 (q9_0.2 1) := by
  refine ⟨⟨rfl, ?_⟩, ⟨rfl, (fun k e h => by cases h)⟩, ⟨rfl, (fun k e h => by cases h)⟩, rfl, rfl, rfl, rfl⟩
  intro o ho
  have h0 : o = 0 := by
    have : o < 1 := ho
    omega
  subst h0
  exact ⟨rfl, rfl, rfl, rfl, rfl⟩
