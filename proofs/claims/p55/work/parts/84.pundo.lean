/-! feed, outputChar, undo, save, restore -/
def chr (x : Int32) : Int32 := (x.toUInt32 % 65536).toInt32
theorem nar_c (x : Int32) : vp_nar .char (chr x) = chr x := by
  have h1 : vp_nar .char (chr x) = (chr x).toUInt32.toUInt16.toUInt32.toInt32 := rfl
  have h2 : (chr x).toUInt32 = x.toUInt32 % 65536 := rfl
  rw [h1, h2]
  unfold chr
  congr 1
  apply UInt32.toNat_inj.mp
  simp
theorem chr_s : ∀ x, x < 128 → vp_nar .char (nI x) = nI x ∧ ((nI x).toUInt32 % 65536).toInt32 = nI x := by decide
