/-! ===== how great what is held can be; a head is taken ===== -/
theorem pDivB {a b : Int64} (h0 : 0 ≤ a.toInt) (hb : 0 < b.toInt) (h : a.toInt ≤ 1000000 * b.toInt) : pBd (a / b).toInt32 0 1000000 := by
  have hq0 : 0 ≤ a.toInt / b.toInt := Int.ediv_nonneg h0 (by omega)
  have hq1 : a.toInt / b.toInt ≤ 1000000 := by
    have h1 : a.toInt / b.toInt ≤ (1000000 * b.toInt) / b.toInt := Int.ediv_le_ediv hb h
    rw [Int.mul_ediv_cancel _ (by omega)] at h1
    exact h1
  have e : (a / b).toInt = a.toInt / b.toInt := by
    rw [Int64.toInt_div, Int.tdiv_eq_ediv_of_nonneg h0]
    exact Int.bmod_eq_of_le (by simp; omega) (by simp; omega)
  have e2 : (a / b).toInt32.toInt = a.toInt / b.toInt := by
    rw [Int64.toInt_toInt32, e]
    exact Int.bmod_eq_of_le (by simp; omega) (by simp; omega)
  unfold pBd
  rw [e2]
  exact ⟨hq0, hq1⟩
theorem pWgt_bd {x s : Int32} (h1 : 1 ≤ s.toInt) (h2 : s.toInt ≤ 9999) (h3 : -9999 ≤ x.toInt) (h4 : x.toInt ≤ 9999) : pBd (pWgt x s) 0 1000000 := by
  have q1 := pSqL (x := s) (by omega) h2
  have q2 := pSqL (x := x) h3 h4
  have q3 := pSq1 h1
  have e6 : (1000000 : Int64).toInt = 1000000 := rfl
  have e5 : (s.toInt64 * s.toInt64 + x.toInt64 * x.toInt64).toInt = s.toInt * s.toInt + x.toInt * x.toInt := by
    rw [pL_add (by rw [q1.1, q2.1]; omega) (by rw [q1.1, q2.1]; omega), q1.1, q2.1]
  have e7 : (1000000 * (s.toInt64 * s.toInt64)).toInt = 1000000 * (s.toInt * s.toInt) := by
    rw [pL_mul (by rw [e6, q1.1]; omega) (by rw [e6, q1.1]; omega), e6, q1.1]
  unfold pWgt
  exact pDivB (by rw [e7]; omega) (by rw [e5]; omega) (by rw [e7, e5]; omega)
theorem pMulB {x y a b : Int} (hx0 : 0 ≤ x) (hx : x ≤ a) (hy0 : 0 ≤ y) (hy : y ≤ b) : 0 ≤ x * y ∧ x * y ≤ a * b := ⟨Int.mul_nonneg hx0 hy0, Int.mul_le_mul hx hy hy0 (by omega)⟩
theorem pPull_bd' {A B : Int64} (a0 : 0 ≤ A.toInt) (a1 : A.toInt ≤ 1000000000000) (b0 : 0 ≤ B.toInt) (b1 : B.toInt ≤ 1000000000000) (h : ¬ A + B = 0) : pBd (A * 1000000 / (A + B)).toInt32 0 1000000 := by
  have e6 : (1000000 : Int64).toInt = 1000000 := rfl
  have e0 : (0 : Int64).toInt = 0 := rfl
  have f5 : (A + B).toInt = A.toInt + B.toInt := pL_add (by omega) (by omega)
  have f6 : (A * 1000000).toInt = A.toInt * 1000000 := by
    rw [pL_mul (by rw [e6]; omega) (by rw [e6]; omega), e6]
  have f7 : A.toInt + B.toInt ≠ 0 := by
    intro h1
    apply h
    apply Int64.toInt_inj.mp
    rw [f5, h1, e0]
  exact pDivB (by rw [f6]; omega) (by rw [f5]; omega) (by rw [f6, f5]; omega)
theorem pPull_bd {o g t : Int32} (ho : pBd o 0 1000000) (hg : pBd g 0 1000000) (ht : pBd t 1 1000) : pBd (pPull o g t) 0 1000000 := by
  obtain ⟨o0, o1⟩ := ho
  obtain ⟨g0, g1⟩ := hg
  obtain ⟨t0, t1⟩ := ht
  have e7 : (1000 : Int64).toInt = 1000 := rfl
  have e8 : (1000000 : Int32).toInt = 1000000 := rfl
  have m1 := pMulB o0 o1 g0 g1
  have f1 : (o.toInt64 * g.toInt64).toInt = o.toInt * g.toInt := by
    rw [pL_mul (by rw [Int32.toInt_toInt64, Int32.toInt_toInt64]; omega) (by rw [Int32.toInt_toInt64, Int32.toInt_toInt64]; omega), Int32.toInt_toInt64, Int32.toInt_toInt64]
  have f2 : ((1000000 : Int32) - o).toInt = 1000000 - o.toInt := by
    rw [pI_sub (by rw [e8]; omega) (by rw [e8]; omega), e8]
  unfold pPull
  generalize (1000000 : Int32) - o = u at f2 ⊢
  have f3 : (u.toInt64 * 1000).toInt = (1000000 - o.toInt) * 1000 := by
    rw [pL_mul (by rw [Int32.toInt_toInt64, f2, e7]; omega) (by rw [Int32.toInt_toInt64, f2, e7]; omega), Int32.toInt_toInt64, f2, e7]
  have m2 := pMulB (x := (1000000 - o.toInt) * 1000) (y := t.toInt) (a := 1000000000) (b := 1000) (by omega) (by omega) (by omega) t1
  generalize u.toInt64 * 1000 = w at f3 ⊢
  have f4 : (w * t.toInt64).toInt = (1000000 - o.toInt) * 1000 * t.toInt := by
    rw [pL_mul (by rw [f3, Int32.toInt_toInt64]; omega) (by rw [f3, Int32.toInt_toInt64]; omega), f3, Int32.toInt_toInt64]
  generalize w * t.toInt64 = B at f4 ⊢
  generalize o.toInt64 * g.toInt64 = A at f1 ⊢
  by_cases h : A + B = 0
  · rw [if_pos h]
    exact ⟨by rw [show (0 : Int32).toInt = 0 from rfl]; omega, by rw [show (0 : Int32).toInt = 0 from rfl]; omega⟩
  · rw [if_neg h]
    exact pPull_bd' (by omega) (by omega) (by omega) (by omega) h
theorem pMul1000 {x : Int32} (h : pBd x 0 1000) : pBd (1000 * x) 0 1000000 := by
  obtain ⟨h0, h1⟩ := h
  have e7 : (1000 : Int32).toInt = 1000 := rfl
  have e : (1000 * x).toInt = 1000 * x.toInt := by
    rw [pI_mul (by rw [e7]; omega) (by rw [e7]; omega), e7]
  unfold pBd
  rw [e]
  omega
theorem pDiv2 {x : Int32} {b : Int} (h : pBd x 0 b) (hb : b < 2147483648) : pBd (x / 2) 0 (b / 2) := by
  obtain ⟨h0, h1⟩ := h
  have e2 : (2 : Int32).toInt = 2 := rfl
  have e : (x / 2).toInt = x.toInt / 2 := by
    rw [Int32.toInt_div, e2, Int.tdiv_eq_ediv_of_nonneg h0]
    exact Int.bmod_eq_of_le (by simp; omega) (by simp; omega)
  unfold pBd
  rw [e]
  omega
theorem pBd.mono {x : Int32} {a b c e : Int} (h : pBd x a b) (h1 : c ≤ a) (h2 : b ≤ e) : pBd x c e := ⟨Int.le_trans h1 h.1, Int.le_trans h.2 h2⟩
theorem pOne0_bd {H : Nat → Int32} (hr : pHr H) : pBd (pOne0 H) 0 1000000 := by
  obtain ⟨b0, b1, b2, b3, b4, b5, b6, b7, b8, b9, b10, b11, b12, b13, b14, b15⟩ := hr
  have e : (H 0 + H 1).toInt = (H 0).toInt + (H 1).toInt := pI_add (by have := b0.1; have := b1.1; omega) (by have := b0.2; have := b1.2; omega)
  have ha : pBd (pOneA H) 0 1000000 := by
    unfold pOneA
    exact pPull_bd (pMul1000 b3) (pWgt_bd (by have := b0.1; have := b1.1; omega) (by have := b0.2; have := b1.2; omega) (by have := b6.1; omega) (by have := b6.2; omega)) b13
  have hb : pBd (pOneB H (pOneA H)) 0 1000000 := by
    unfold pOneB
    split
    · exact pPull_bd ha (pMul1000 b14) b13
    · split
      · refine pPull_bd ha (pMul1000 ?_) b13
        have e7 : (1000 : Int32).toInt = 1000 := rfl
        have e2 : (1000 + H 14).toInt = 1000 + (H 14).toInt := by
          have q1 := b14.1
          have q2 := b14.2
          rw [pI_add (by rw [e7]; omega) (by rw [e7]; omega), e7]
        exact (pDiv2 (b := 2000) ⟨by rw [e2]; have := b14.1; omega, by rw [e2]; have := b14.2; omega⟩ (by decide)).mono (Int.le_refl _) (by decide)
      · exact ha
  unfold pOne0 pOneC
  split
  · exact pPull_bd hb (pMul1000 b15) b13
  · split
    · exact pPull_bd hb (pMul1000 ((pDiv2 b15 (by decide)).mono (Int.le_refl _) (by decide))) b13
    · exact hb
theorem pStroke_bd {H : Nat → Int32} (hr : pHr H) {x : Int32} (hx : pBd x 0 1000000) : pBd (pStroke H x) 0 1000000 := by
  obtain ⟨b0, b1, b2, b3, b4, b5, b6, b7, b8, b9, b10, b11, b12, b13, b14, b15⟩ := hr
  rw [← pStroke_def]
  exact pPull_bd hx (pWgt_bd b2.1 (by have := b2.2; omega) (by have := b7.1; omega) (by have := b7.2; omega)) b13
theorem pIter_bd {H : Nat → Int32} (hr : pHr H) : ∀ (n : Nat) (x : Int32), pBd x 0 1000000 → pBd (pIter (pStroke H) n x) 0 1000000
  | 0, x, h => by
    rw [pIter_zero]
    exact h
  | n + 1, x, h => by
    rw [pIter_succ]
    exact pIter_bd hr n _ (pStroke_bd hr h)
theorem pBehind_bd {H : Nat → Int32} (hr : pHr H) (n : Nat) : pBd (pBehind H n) 0 1000000 := by
  unfold pBehind
  split
  · exact pIter_bd hr n _ (pOne0_bd hr)
  · exact pOne0_bd hr
theorem pHeld_bd {H : Nat → Int32} (hr : pHr H) : pBd (pHeld H) 0 1000000 := by
  unfold pHeld
  split
  · exact ⟨by rw [show (1000000 : Int32).toInt = 1000000 from rfl]; omega, by rw [show (1000000 : Int32).toInt = 1000000 from rfl]; omega⟩
  · split
    · have b5 := hr.2.2.2.2.2.1
      have e7 : (10000 : Int32).toInt = 10000 := rfl
      have e : (10000 * H 5).toInt = 10000 * (H 5).toInt := by
        have q1 := b5.1
        have q2 := b5.2
        rw [pI_mul (by rw [e7]; omega) (by rw [e7]; omega), e7]
      exact ⟨by rw [e]; have := b5.1; omega, by rw [e]; have := b5.2; omega⟩
    · exact pBehind_bd hr _
