/-! an object's state: its numbers and its rows of numbers, by the places of the fields -/
abbrev OS : Type := (Nat → Int32) × (Nat → Nat → Int32)
abbrev os_f (σ : OS) (k : Nat) : Int32 := σ.1 k
abbrev os_a (σ : OS) (j i : Nat) : Int32 := σ.2 j i
def os_sf (σ : OS) (k : Nat) (v : Int32) : OS := (upd σ.1 k v, σ.2)
def os_sa (σ : OS) (j i : Nat) (v : Int32) : OS := (σ.1, fun q => if q = j then upd (σ.2 j) i v else σ.2 q)
theorem gx_narZ {v : Int32} (h : v = 0 ∨ v = 1) : narrow .boolean (.int v) = .int v := by rcases h with rfl | rfl <;> rfl
theorem gx_fitZ {v : Int32} (h : v = 0 ∨ v = 1) : fits .boolean (.int v) = true := by rcases h with rfl | rfl <;> rfl
theorem gx_narC {v : Int32} (h : vp_nar .char v = v) : narrow .char (.int v) = .int v := by
  have h1 : narrow .char (.int v) = .int (vp_nar .char v) := rfl
  rw [h1, h]
/-- the model's cells: the object at ad 0, its arrays behind it -/
def mC (ad : Nat → Nat) (t : Nat → ClassId) (σ : OS) : va_W := [(ad 0, .inr (10, [.int (os_f σ 0), .ref (ad 1), .ref (ad 2), .ref (ad 3), .ref (ad 4), .int (os_f σ 5), .int (os_f σ 6), .ref (ad 5), .ref (ad 6), .ref (ad 7), .int (os_f σ 10), .int (os_f σ 11), .int (os_f σ 12), .int (os_f σ 13), .int (os_f σ 14), .int (os_f σ 15), .int (os_f σ 16), .int (os_f σ 17), .int (os_f σ 18)])), (ad 1, .inl (t 0, 131, .inl (σ.2 1))), (ad 2, .inl (t 0, 131, .inl (σ.2 2))), (ad 3, .inl (t 0, 131, .inl (σ.2 3))), (ad 4, .inl (t 0, 1048, .inl (σ.2 4))), (ad 5, .inl (t 0, 60, .inl (σ.2 7))), (ad 6, .inl (t 0, 240, .inl (σ.2 8))), (ad 7, .inl (t 0, 80, .inl (σ.2 9)))]
