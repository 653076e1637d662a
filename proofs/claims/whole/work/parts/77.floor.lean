/-! ===== a quotient, cut towards less ===== -/
theorem lgGe {x y : Int64} : (0 : Int32) ≤ lg_cmp x y ↔ ¬ x < y := by
  unfold lg_cmp
  by_cases h1 : x < y
  · have g1 := Int64.lt_iff_toInt_lt.mp h1
    have h2 : ¬ y < x := fun h => by
      have := Int64.lt_iff_toInt_lt.mp h
      omega
    have h3 : ¬ x = y := fun e => by
      rw [e] at g1
      omega
    rw [if_neg h2, if_neg h3]
    exact ⟨fun h => absurd h (by decide), fun h => absurd h1 h⟩
  · by_cases h2 : y < x
    · rw [if_pos h2]
      exact ⟨fun _ => h1, fun _ => by decide⟩
    · have h3 : x = y := by
        apply Int64.toInt_inj.mp
        have g1 : ¬ x.toInt < y.toInt := fun h => h1 (Int64.lt_iff_toInt_lt.mpr h)
        have g2 : ¬ y.toInt < x.toInt := fun h => h2 (Int64.lt_iff_toInt_lt.mpr h)
        omega
      rw [if_neg h2, if_pos h3]
      exact ⟨fun _ => h1, fun _ => by decide⟩
theorem xNeg (a b : Int64) : (a ^^^ b) < 0 ↔ ¬ (a < 0 ↔ b < 0) := by
  have n : ∀ x : Int64, x < 0 ↔ x.toBitVec.msb = true := by
    intro x
    rw [Int64.lt_iff_toInt_lt, BitVec.msb_eq_toInt, decide_eq_true_eq]
    rfl
  rw [n, n, n, Int64.toBitVec_xor, BitVec.msb_xor]
  cases a.toBitVec.msb <;> cases b.toBitVec.msb <;> decide
def pFloor (a b : Int64) : Int64 := if a / b * b = a then a / b else if (a < 0 ↔ b < 0) then a / b else a / b - 1
section PFloor
variable {G : Nat × (Nat → Int32)} {d : Nat} {σ : aH}
theorem s_floorC {a b : Int64} (hb : ¬ b = 0) : Rn G (d + 2) 266 [.long a, .long b] σ = oL (pFloor a b) σ := by
  rw [e_Rh_cutTowardsLess, if_neg (fun h => hb ((lg_cmp_eq _ _).mp h)), e_Math_floorDiv]
  unfold aNzL
  rw [if_neg hb]
  unfold pFloor
  by_cases h1 : a / b * b = a
  · rw [if_pos ((lg_cmp_eq _ _).mpr h1), ite_self, if_pos h1]
    rfl
  · rw [if_neg (fun h => h1 ((lg_cmp_eq _ _).mp h)), if_neg h1]
    by_cases h2 : a < 0 ↔ b < 0
    · rw [if_pos (lgGe.mpr (fun h => (xNeg a b).mp h h2)), if_pos h2]
      rfl
    · rw [if_neg (fun h => (lgGe.mp h) ((xNeg a b).mpr h2)), if_neg h2]
      rfl
theorem s_floorM {a b : Int64} (hb : ¬ b = 0) : Rn G (d + 1) 269 [.long a, .long b] σ = oL (pFloor a b) σ := by
  rw [e_Md_floor]
  unfold aNzL
  rw [if_neg hb, if_neg hb]
  unfold pFloor
  by_cases h1 : a / b * b = a
  · rw [if_pos ((lg_cmp_eq _ _).mpr (by rw [h1, Int64.sub_self])), if_pos h1]
  · have h0 : ¬ lg_cmp (a - a / b * b) 0 = 0 := by
      intro h
      have h2 := Int64.sub_eq_iff_eq_add.mp ((lg_cmp_eq _ _).mp h)
      rw [Int64.zero_add] at h2
      exact h1 h2.symm
    rw [if_neg h0, if_neg h1]
    by_cases ha : a < 0
    · rw [if_neg (fun h => lgGe.mp h ha)]
      by_cases hb2 : b < 0
      · rw [if_neg (fun h => lgGe.mp h hb2), if_pos rfl, if_pos ⟨fun _ => hb2, fun _ => ha⟩]
      · rw [if_pos (lgGe.mpr hb2), if_neg (by decide), if_neg (fun h => hb2 (h.mp ha))]
    · rw [if_pos (lgGe.mpr ha)]
      by_cases hb2 : b < 0
      · rw [if_neg (fun h => lgGe.mp h hb2), if_neg (by decide), if_neg (fun h => ha (h.mpr hb2))]
      · rw [if_pos (lgGe.mpr hb2), if_pos rfl, if_pos ⟨fun h => absurd h ha, fun h => absurd h hb2⟩]
end PFloor
