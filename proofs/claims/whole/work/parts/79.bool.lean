/-! ===== truth values of the class ===== -/
section PBl
variable {G : Nat × (Nat → Int32)}
theorem b_isSaid {x v : Int32} {σ σ' : aH} (h : Rn G 60 148 [.ref 0, .int x] σ = oI v σ') : v = 0 ∨ v = 1 := by
  sorry
theorem b_tell {x y z v : Int32} {σ σ' : aH} (h : Rn G 60 197 [.ref 0, .int x, .int y, .int z] σ = oI v σ') : v = 0 ∨ v = 1 := by
  sorry
end PBl
