/-! ===== what stands at the start ===== -/
/-- what stands at the start, by both sides' sums -/
theorem pStart_eq {x : Int32} (h : pBd x 0 1000000) : (100 * x.toInt64 / 1000000).toInt32 = 100 * x / 1000000 := by
  obtain ⟨h0, h1⟩ := h
  have e6 : (1000000 : Int64).toInt = 1000000 := rfl
  have e7 : (100 : Int64).toInt = 100 := rfl
  have e8 : (1000000 : Int32).toInt = 1000000 := rfl
  have e9 : (100 : Int32).toInt = 100 := rfl
  have f1 : (100 * x.toInt64).toInt = 100 * x.toInt := by
    rw [pL_mul (by rw [Int32.toInt_toInt64, e7]; omega) (by rw [Int32.toInt_toInt64, e7]; omega), Int32.toInt_toInt64, e7]
  have f2 : (100 * x).toInt = 100 * x.toInt := by
    rw [pI_mul (by rw [e9]; omega) (by rw [e9]; omega), e9]
  apply Int32.toInt_inj.mp
  rw [Int64.toInt_toInt32, Int64.toInt_div, Int32.toInt_div, f1, f2, e6, e8, Int.tdiv_eq_ediv_of_nonneg (by omega)]
  rw [Int.bmod_eq_of_le (n := 100 * x.toInt / 1000000) (m := 2 ^ 64) (by simp; omega) (by simp; omega)]
