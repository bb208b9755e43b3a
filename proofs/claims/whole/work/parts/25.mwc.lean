theorem mw_cN (b : Bool) (I L : Nat → Nat → Int) : cN (MW b I L) = 129 := by
  show LAY.length = 129
  decide +kernel
theorem mw_sN (b : Bool) (I L : Nat → Nat → Int) : sN (MW b I L) = 14022 := by
  show (LAY.map (fun q => q.2.2)).sum = 14022
  decide +kernel
theorem mw_c {b b' : Bool} {I L I' L' : Nat → Nat → Int} : cN (MW b I L) = cN (MW b' I' L') + 0 ∧ sN (MW b I L) = sN (MW b' I' L') + 0 := by
  rw [mw_cN, mw_cN, mw_sN, mw_sN]; exact ⟨rfl, rfl⟩
theorem mw_le {b b' : Bool} {I L I' L' : Nat → Nat → Int} : cN (MW b I L) + 0 ≤ cN (MW b' I' L') + 0 ∧ sN (MW b I L) + 0 ≤ sN (MW b' I' L') + 0 := by
  rw [mw_cN, mw_cN, mw_sN, mw_sN]; exact ⟨Nat.le_refl _, Nat.le_refl _⟩
