/-! ===== heads: what is seen, touched and felt, of both sides ===== -/
/-- one at first. H: sight, joint, touch, leans, yes, wish; far, late, way, thing, told, strokes; kind, two, turn, shape -/
def pOneA (H : Nat → Int32) : Int32 := pPull (1000 * H 3) (pWgt (H 6) (H 0 + H 1)) (H 13)
def pOneB (H : Nat → Int32) (one : Int32) : Int32 := if H 8 = 1 then pPull one (1000 * H 14) (H 13) else if H 8 = 2 then pPull one (1000 * ((1000 + H 14) / 2)) (H 13) else one
def pOneC (H : Nat → Int32) (one : Int32) : Int32 := if H 9 = 1 then pPull one (1000 * H 15) (H 13) else if H 9 = 2 then pPull one (1000 * (H 15 / 2)) (H 13) else one
def pOne0 (H : Nat → Int32) : Int32 := pOneC H (pOneB H (pOneA H))
def pStroke (H : Nat → Int32) (one : Int32) : Int32 := pPull one (pWgt (H 7) (H 2)) (H 13)
def pIter (f : Int32 → Int32) : Nat → Int32 → Int32
  | 0, x => x
  | n + 1, x => pIter f n (f x)
theorem pIter_succ (f : Int32 → Int32) (n : Nat) (x : Int32) : pIter f (n + 1) x = pIter f n (f x) := rfl
theorem pIter_zero (f : Int32 → Int32) (x : Int32) : pIter f 0 x = x := rfl
theorem pStroke_def (H : Nat → Int32) (x : Int32) : pPull x (pWgt (H 7) (H 2)) (H 13) = pStroke H x := rfl
def pBehind (H : Nat → Int32) (n : Nat) : Int32 := if H 10 = 0 then pIter (pStroke H) n (pOne0 H) else pOne0 H
def pHeld (H : Nat → Int32) : Int32 := if H 12 = 0 then 1000000 else if H 12 = 2 then 10000 * H 5 else pBehind H (H 11).toNatClampNeg
def pComesL (H : Nat → Int32) : Nat → Nat → Int32 → Int32
  | 0, _, _ => -1
  | k + 1, i, one => if one < 500000 then pComesL H k (i + 1) (if H 10 = 0 then pStroke H one else one) else Int32.ofNat i
theorem pComesL_succ (H : Nat → Int32) (k i : Nat) (one : Int32) : pComesL H (k + 1) i one = if one < 500000 then pComesL H k (i + 1) (if H 10 = 0 then pStroke H one else one) else Int32.ofNat i := rfl
theorem pComesL_zero (H : Nat → Int32) (i : Nat) (one : Int32) : pComesL H 0 i one = -1 := rfl
def pComes (H : Nat → Int32) : Int32 := pComesL H ((H 11).toNatClampNeg + 1) 0 (pOne0 H)
def pDrift (H : Nat → Int32) (held : Int32) : Int32 := if H 12 = 2 then H 6 * H 5 / 100 else ((H 6).toInt64 * (H 1).toInt64 * (H 1).toInt64 * held.toInt64 / (((H 1).toInt64 * (H 1).toInt64 + (H 0).toInt64 * (H 0).toInt64) * 1000000)).toInt32
def pFelt (H : Nat → Int32) (held : Int32) : Int32 := if H 10 = 1 then 6 * H 5 / 100 - 3 else 6 * held / 1000000 - 3
def pSlow (H : Nat → Int32) : Int32 := if H 12 = 0 then 0 else if H 12 = 2 then H 11 - H 11 * H 5 / 100 else if pComes H = -1 then H 11 + 1 else pComes H
/-- what is foretold of a column; sd: of a line that is said -/
def pTell (H : Nat → Int32) (c : Nat) (sd : Bool) : Int32 := if c = 12 then pDrift H (pHeld H) else if c = 13 then 100 * pHeld H / 1000000 else if c = 14 then pSlow H else if sd = true then 6 * H 4 / 100 - 3 else pFelt H (pHeld H)
/-- the class's head: its fields -/
def pHc (σ : aH) (H : Nat → Int32) : Prop := ∀ k, k < 16 → σ.1 24 k = H k
/-- the reference's: head, seat and a law -/
def pHm (σ : aH) (l : Nat) (H : Nat → Int32) : Prop := (∀ k, k < 6 → σ.1 50 k = H k) ∧ (∀ k, k < 6 → σ.1 51 k = H (6 + k)) ∧ σ.1 36 (5 * l) = H 12 ∧ σ.1 36 (5 * l + 1) = H 13 ∧ σ.1 36 (5 * l + 3) = H 14 ∧ σ.1 36 (5 * l + 4) = H 15
/-- between two numbers -/
def pBd (x : Int32) (a b : Int) : Prop := a ≤ x.toInt ∧ x.toInt ≤ b
/-- within their bounds -/
def pHr (H : Nat → Int32) : Prop := pBd (H 0) 1 99 ∧ pBd (H 1) 1 99 ∧ pBd (H 2) 1 999 ∧ pBd (H 3) 0 1000 ∧ pBd (H 4) 0 100 ∧ pBd (H 5) 0 100 ∧ pBd (H 6) 0 999 ∧ pBd (H 7) 0 2000 ∧ (H 8 = 0 ∨ H 8 = 1 ∨ H 8 = 2) ∧ (H 9 = 0 ∨ H 9 = 1 ∨ H 9 = 2) ∧ (H 10 = 0 ∨ H 10 = 1) ∧ pBd (H 11) 0 600 ∧ (H 12 = 0 ∨ H 12 = 1 ∨ H 12 = 2) ∧ pBd (H 13) 1 1000 ∧ pBd (H 14) 0 1000 ∧ pBd (H 15) 0 1000
theorem pBd.nn {x : Int32} {a b : Int} (h : pBd x a b) (ha : 0 ≤ a) : x = Int32.ofNat x.toNatClampNeg := (Int32.ofNat_toNatClampNeg x (Int32.le_iff_toInt_le.mpr (by have := h.1; show (0 : Int) ≤ x.toInt; omega))).symm
theorem pBd.lt {x : Int32} {a b : Int} (h : pBd x a b) (ha : 0 ≤ a) : (x.toNatClampNeg : Int) = x.toInt := by
  have h1 := pN_int (n := x.toNatClampNeg) (Int32.toNatClampNeg_lt x)
  rw [← h.nn ha] at h1
  exact h1.symm
/-! sums and products, where nothing runs over -/
theorem pL_add {a b : Int64} (h1 : -9223372036854775808 ≤ a.toInt + b.toInt) (h2 : a.toInt + b.toInt < 9223372036854775808) : (a + b).toInt = a.toInt + b.toInt := by
  rw [Int64.toInt_add]
  exact Int.bmod_eq_of_le (by simpa using h1) (by simpa using h2)
theorem pL_mul {a b : Int64} (h1 : -9223372036854775808 ≤ a.toInt * b.toInt) (h2 : a.toInt * b.toInt < 9223372036854775808) : (a * b).toInt = a.toInt * b.toInt := by
  rw [Int64.toInt_mul]
  exact Int.bmod_eq_of_le (by simpa using h1) (by simpa using h2)
theorem pI_add {a b : Int32} (h1 : -2147483648 ≤ a.toInt + b.toInt) (h2 : a.toInt + b.toInt < 2147483648) : (a + b).toInt = a.toInt + b.toInt := by
  rw [Int32.toInt_add]
  exact Int.bmod_eq_of_le (by simpa using h1) (by simpa using h2)
theorem pI_sub {a b : Int32} (h1 : -2147483648 ≤ a.toInt - b.toInt) (h2 : a.toInt - b.toInt < 2147483648) : (a - b).toInt = a.toInt - b.toInt := by
  rw [Int32.toInt_sub]
  exact Int.bmod_eq_of_le (by simpa using h1) (by simpa using h2)
theorem pI_mul {a b : Int32} (h1 : -2147483648 ≤ a.toInt * b.toInt) (h2 : a.toInt * b.toInt < 2147483648) : (a * b).toInt = a.toInt * b.toInt := by
  rw [Int32.toInt_mul]
  exact Int.bmod_eq_of_le (by simpa using h1) (by simpa using h2)
theorem pSq {x : Int} {m : Int} (h1 : -m ≤ x) (h2 : x ≤ m) : 0 ≤ x * x ∧ x * x ≤ m * m := by
  have hx : 0 ≤ x * x := by
    rcases Int.le_total 0 x with h | h
    · exact Int.mul_nonneg h h
    · exact Int.mul_nonneg_of_nonpos_of_nonpos h h
  refine ⟨hx, ?_⟩
  rcases Int.le_total 0 x with h | h
  · exact Int.mul_le_mul h2 h2 h (Int.le_trans h h2)
  · have := Int.mul_le_mul (a := -x) (b := -x) (c := m) (d := m) (by omega) (by omega) (by omega) (by omega)
    rw [Int.neg_mul_neg] at this
    exact this
theorem pSqL {x : Int32} (h1 : -9999 ≤ x.toInt) (h2 : x.toInt ≤ 9999) : (x.toInt64 * x.toInt64).toInt = x.toInt * x.toInt ∧ 0 ≤ x.toInt * x.toInt ∧ x.toInt * x.toInt ≤ 9999 * 9999 := by
  have q := pSq (x := x.toInt) (m := 9999) h1 h2
  refine ⟨?_, q.1, q.2⟩
  rw [pL_mul (by rw [Int32.toInt_toInt64]; omega) (by rw [Int32.toInt_toInt64]; omega), Int32.toInt_toInt64]
theorem pSq1 {x : Int} (h : 1 ≤ x) : 1 ≤ x * x := by
  have := Int.mul_le_mul (a := 1) (b := 1) (c := x) (d := x) h h (by omega) (by omega)
  omega
theorem pW_ne {x s : Int32} (h1 : 1 ≤ s.toInt) (h2 : s.toInt ≤ 9999) (h3 : -9999 ≤ x.toInt) (h4 : x.toInt ≤ 9999) : s.toInt64 * s.toInt64 + x.toInt64 * x.toInt64 ≠ 0 := by
  intro h
  have q1 := pSqL (x := s) (by omega) h2
  have q2 := pSqL (x := x) h3 h4
  have q3 := pSq1 h1
  have e3 := congrArg Int64.toInt h
  rw [pL_add (by rw [q1.1, q2.1]; omega) (by rw [q1.1, q2.1]; omega), q1.1, q2.1] at e3
  have e4 : (0 : Int64).toInt = 0 := rfl
  rw [e4] at e3
  omega
theorem pW_ne2 {x s : Int32} (h1 : 1 ≤ s.toInt) (h2 : s.toInt ≤ 9999) (h3 : -9999 ≤ x.toInt) (h4 : x.toInt ≤ 9999) : (s.toInt64 * s.toInt64 + x.toInt64 * x.toInt64) * 1000000 ≠ 0 := by
  intro h
  have q1 := pSqL (x := s) (by omega) h2
  have q2 := pSqL (x := x) h3 h4
  have q3 := pSq1 h1
  have e5 : (s.toInt64 * s.toInt64 + x.toInt64 * x.toInt64).toInt = s.toInt * s.toInt + x.toInt * x.toInt := by
    rw [pL_add (by rw [q1.1, q2.1]; omega) (by rw [q1.1, q2.1]; omega), q1.1, q2.1]
  have e6 : (1000000 : Int64).toInt = 1000000 := rfl
  have e3 := congrArg Int64.toInt h
  rw [pL_mul (by rw [e5, e6]; omega) (by rw [e5, e6]; omega), e5, e6] at e3
  have e4 : (0 : Int64).toInt = 0 := rfl
  rw [e4] at e3
  omega
theorem pIter_fix {f : Int32 → Int32} {x : Int32} (h : f x = x) : ∀ n, pIter f n x = x
  | 0 => rfl
  | n + 1 => by
    rw [pIter_succ, h]
    exact pIter_fix h n
theorem pComesL_fix {H : Nat → Int32} {x : Int32} (hx : x < 500000) (h : (if H 10 = 0 then pStroke H x else x) = x) : ∀ k i, pComesL H k i x = -1
  | 0, _ => rfl
  | k + 1, i => by
    rw [pComesL_succ, if_pos hx, h]
    exact pComesL_fix hx h k (i + 1)
section PHead
variable {G : Nat × (Nat → Int32)} {d : Nat} {σ : aH} {H : Nat → Int32}
theorem s_wgtC {x s : Int32} : Rn G (d + 1) 152 [.int x, .int s] σ = oI (pWgt x s) σ := by
  rw [e_Rh_weightOf]
  unfold pWgt
  by_cases h : s.toInt64 * s.toInt64 + x.toInt64 * x.toInt64 = 0
  · rw [if_pos ((lg_cmp_eq _ _).mpr h), h, Int64.div_zero]
    rfl
  · rw [if_neg (fun h2 => h ((lg_cmp_eq _ _).mp h2))]
    unfold aNzL
    rw [if_neg h]
theorem s_wgtM {x s : Int32} (h : s.toInt64 * s.toInt64 + x.toInt64 * x.toInt64 ≠ 0) : Rn G (d + 1) 154 [.long x.toInt64, .long s.toInt64] σ = oI (pWgt x s) σ := by
  rw [e_Md_weightOf]
  unfold pWgt aNzL
  rw [if_neg h, Int64.mul_assoc]
theorem pOneB1 {H : Nat → Int32} {o : Int32} (h : H 8 = 1) : pOneB H o = pPull o (1000 * H 14) (H 13) := if_pos h
theorem pOneB2 {H : Nat → Int32} {o : Int32} (h0 : ¬ H 8 = 1) (h : H 8 = 2) : pOneB H o = pPull o (1000 * ((1000 + H 14) / 2)) (H 13) := (if_neg h0).trans (if_pos h)
theorem pOneB3 {H : Nat → Int32} {o : Int32} (h0 : ¬ H 8 = 1) (h : ¬ H 8 = 2) : pOneB H o = o := (if_neg h0).trans (if_neg h)
theorem pOneC1 {H : Nat → Int32} {o : Int32} (h : H 9 = 1) : pOneC H o = pPull o (1000 * H 15) (H 13) := if_pos h
theorem pOneC2 {H : Nat → Int32} {o : Int32} (h0 : ¬ H 9 = 1) (h : H 9 = 2) : pOneC H o = pPull o (1000 * (H 15 / 2)) (H 13) := (if_neg h0).trans (if_pos h)
theorem pOneC3 {H : Nat → Int32} {o : Int32} (h0 : ¬ H 9 = 1) (h : ¬ H 9 = 2) : pOneC H o = o := (if_neg h0).trans (if_neg h)
theorem s_oneAtFirst (h : pHc σ H) : Rn G (d + 2) 164 [.ref 24] σ = oI (pOne0 H) σ := by
  rw [e_Rh_Head_oneAtFirst]
  simp (decide := true) only [pCI, pCV, pCL, pXV, pXVt, pXI, pXIt, pSI_ne, pSI_2, s_wgtC, s_pullC, h 0 (by decide), h 1 (by decide), h 3 (by decide), h 6 (by decide), h 8 (by decide), h 9 (by decide), h 13 (by decide), h 14 (by decide), h 15 (by decide)]
  unfold pOne0 pOneA
  by_cases h1 : H 8 = 1
  · rw [if_pos h1, pOneB1 h1]
    by_cases h3 : H 9 = 1
    · rw [if_pos h3, pOneC1 h3]
    · rw [if_neg h3]
      by_cases h4 : H 9 = 2
      · rw [if_pos h4, pOneC2 h3 h4]
      · rw [if_neg h4, pOneC3 h3 h4]
  · rw [if_neg h1]
    by_cases h2 : H 8 = 2
    · rw [if_pos h2, pOneB2 h1 h2]
      by_cases h3 : H 9 = 1
      · rw [if_pos h3, pOneC1 h3]
      · rw [if_neg h3]
        by_cases h4 : H 9 = 2
        · rw [if_pos h4, pOneC2 h3 h4]
        · rw [if_neg h4, pOneC3 h3 h4]
    · rw [if_neg h2, pOneB3 h1 h2]
      by_cases h3 : H 9 = 1
      · rw [if_pos h3, pOneC1 h3]
      · rw [if_neg h3]
        by_cases h4 : H 9 = 2
        · rw [if_pos h4, pOneC2 h3 h4]
        · rw [if_neg h4, pOneC3 h3 h4]
theorem s_oneBehind_loop (h : pHc σ H) {n : Nat} (hn : n < 2147483648) : ∀ (k i : Nat) (x : Int32), i + k = n → Lq G (d + 2) M_163 (20, [some (.ref 24), some (.int (Int32.ofNat n)), some (.int x), some (.int (pWgt (H 7) (H 2))), some (.int (Int32.ofNat i)), none], [], σ) = oI (if H 10 = 0 then pIter (pStroke H) k x else x) σ := by
  intro k
  induction k with
  | zero =>
    intro i x hi
    have e : i = n := hi
    subst e
    rw [c_Rh_Head_oneBehind_20, if_pos (Int32.le_refl _), pIter_zero, ite_self]
  | succ k ih =>
    intro i x hi
    rw [c_Rh_Head_oneBehind_20, if_neg (pGo (by omega) hn), h 10 (by decide)]
    by_cases h0 : H 10 = 0
    · rw [if_pos h0, if_pos h0, s_pullC, pCI, h 13 (by decide), pStroke_def]
      by_cases h1 : pStroke H x = x
      · rw [if_pos h1, pIter_fix h1]
      · rw [if_neg h1, pN_s, ih (i + 1) _ (by omega), if_pos h0, pIter_succ]
    · rw [if_neg h0, if_neg h0]
theorem s_oneBehind (h : pHc σ H) {n : Nat} (hn : n < 2147483648) : Rn G (d + 3) 163 [.ref 24, .int (Int32.ofNat n)] σ = oI (pBehind H n) σ := by
  rw [e_Rh_Head_oneBehind, s_oneAtFirst h, pCI, h 7 (by decide), h 2 (by decide), s_wgtC, pCI]
  exact s_oneBehind_loop h hn n 0 _ (Nat.zero_add n)
theorem s_settle (h : pHc σ H) (hr : pHr H) : Rn G (d + 4) 176 [.ref 24] σ = oV (aSI σ 24 16 (pHeld H)) := by
  rw [e_Rh_Head_settle, h 12 (by decide), h 5 (by decide), h 11 (by decide)]
  unfold pHeld
  by_cases h0 : H 12 = 0
  · rw [if_pos h0, if_pos h0]
  · rw [if_neg h0, if_neg h0]
    by_cases h2 : H 12 = 2
    · rw [if_pos h2, if_pos h2]
    · rw [if_neg h2, if_neg h2, hr.2.2.2.2.2.2.2.2.2.2.2.1.nn (by omega), s_oneBehind h (Int32.toNatClampNeg_lt _), pCI, pN_cl (Int32.toNatClampNeg_lt _)]
theorem s_drift (h : pHc σ H) (hr : pHr H) : Rn G (d + 1) 177 [.ref 24] σ = oI (pDrift H (σ.1 24 16)) σ := by
  rw [e_Rh_Head_drift, h 12 (by decide), h 5 (by decide), h 6 (by decide), h 0 (by decide), h 1 (by decide)]
  unfold pDrift
  by_cases h0 : H 12 = 2
  · rw [if_pos h0, if_pos h0]
  · have b0 := hr.1
    have b1 := hr.2.1
    unfold pBd at b0 b1
    rw [if_neg h0, if_neg h0, if_neg (fun h2 => pW_ne (x := H 0) (s := H 1) (by omega) (by omega) (by omega) (by omega) ((lg_cmp_eq _ _).mp h2))]
    unfold aNzL
    rw [if_neg (pW_ne2 (by omega) (by omega) (by omega) (by omega))]
theorem s_comes_loop (h : pHc σ H) {n : Nat} (hn : H 11 = Int32.ofNat n) (hn2 : n < 2147483647) : ∀ (k i : Nat) (x : Int32), i + k = n + 1 → Lq G (d + 2) M_175 (19, [some (.ref 24), some (.int x), some (.int (pWgt (H 7) (H 2))), some (.int (Int32.ofNat i)), none], [], σ) = oI (pComesL H k i x) σ := by
  intro k
  induction k with
  | zero =>
    intro i x hi
    have e : i = n + 1 := hi
    subst e
    rw [c_Rh_Head_comes_19, h 11 (by decide), hn, if_pos ((pN_lt (by omega) (by omega)).mpr (by omega)), pComesL_zero]
  | succ k ih =>
    intro i x hi
    rw [c_Rh_Head_comes_19, h 11 (by decide), h 10 (by decide), hn, if_neg (fun h2 => absurd ((pN_lt (by omega) (by omega)).mp h2) (by omega))]
    rw [pComesL_succ]
    by_cases hx : x < 500000
    · rw [if_pos hx, if_pos hx]
      by_cases h0 : H 10 = 0
      · rw [if_pos h0, if_pos h0, s_pullC, pCI, h 13 (by decide), pStroke_def]
        by_cases h1 : pStroke H x = x
        · rw [if_pos h1, h1, pComesL_fix hx (by rw [if_pos h0, h1])]
        · rw [if_neg h1, pN_s, ih (i + 1) _ (by omega)]
      · rw [if_neg h0, if_neg h0, if_pos rfl, pComesL_fix hx (by rw [if_neg h0])]
    · rw [if_neg hx, if_neg hx]
theorem s_comes (h : pHc σ H) (hr : pHr H) : Rn G (d + 3) 175 [.ref 24] σ = oI (pComes H) σ := by
  have b := hr.2.2.2.2.2.2.2.2.2.2.2.1
  have b1 := b.lt (by omega)
  unfold pBd at b
  rw [e_Rh_Head_comes, s_oneAtFirst h, pCI, h 7 (by decide), h 2 (by decide), s_wgtC, pCI]
  exact s_comes_loop h (hr.2.2.2.2.2.2.2.2.2.2.2.1.nn (by omega)) (by omega) _ 0 _ (Nat.zero_add _)
theorem s_slow (h : pHc σ H) (hr : pHr H) : Rn G (d + 4) 186 [.ref 24] σ = oI (pSlow H) σ := by
  rw [e_Rh_Head_slow, h 12 (by decide), h 5 (by decide), h 11 (by decide), s_comes h hr]
  unfold pSlow
  by_cases h0 : H 12 = 0
  · rw [if_pos h0, if_pos h0]
  · rw [if_neg h0, if_neg h0]
    by_cases h2 : H 12 = 2
    · rw [if_pos h2, if_pos h2]
    · rw [if_neg h2, if_neg h2, pCI]
      by_cases h3 : pComes H = -1
      · rw [if_pos h3, if_pos h3, h 11 (by decide)]
      · rw [if_neg h3, if_neg h3]
theorem s_felt (h : pHc σ H) : Rn G (d + 1) 187 [.ref 24] σ = oI (pFelt H (σ.1 24 16)) σ := by
  rw [e_Rh_Head_felt, h 10 (by decide), h 5 (by decide)]
  unfold pFelt
  by_cases h0 : H 10 = 1
  · rw [if_pos h0, if_pos h0]
  · rw [if_neg h0, if_neg h0]
theorem s_foretells (h : pHc σ H) (hr : pHr H) (hh : σ.1 24 16 = pHeld H) {x y : Int32} {c : Nat} {sd : Bool} (hx : x = Int32.ofNat c) (hc : c < 15) (hy : y = if sd = true then 1 else 0) : Rn G (d + 5) 185 [.ref 24, .int x, .int y] σ = oI (pTell H c sd) σ := by
  rw [e_Rh_Head_foretells, s_drift h hr, s_slow h hr, s_felt h, hh, h 4 (by decide), pCI, pCI, pCI, hx]
  unfold pTell
  by_cases h0 : c = 12
  · rw [if_pos (show Int32.ofNat c = 12 by rw [h0]; rfl), if_pos h0]
  · rw [if_neg (fun h1 : Int32.ofNat c = 12 => h0 ((pN_eq (b := 12) (by omega) (by omega)).mp h1)), if_neg h0]
    by_cases h1 : c = 13
    · rw [if_pos (show Int32.ofNat c = 13 by rw [h1]; rfl), if_pos h1]
    · rw [if_neg (fun h2 : Int32.ofNat c = 13 => h1 ((pN_eq (b := 13) (by omega) (by omega)).mp h2)), if_neg h1]
      by_cases h2 : c = 14
      · rw [if_pos (show Int32.ofNat c = 14 by rw [h2]; rfl), if_pos h2]
      · rw [if_neg (fun h3 : Int32.ofNat c = 14 => h2 ((pN_eq (b := 14) (by omega) (by omega)).mp h3)), if_neg h2, hy]
        cases sd
        · rw [if_pos (by decide), if_neg (by decide)]
        · rw [if_neg (by decide), if_pos rfl]
theorem s_takeSpans {x y : Int32} : Rn G (d + 1) 161 [.ref 24, .int x, .int y] σ = oV (aSI (aSI σ 24 0 x) 24 1 y) := e_Rh_Head_takeSpans ..
/-! the reference's -/
theorem pM5 (l : Nat) : (5 : Int32) * Int32.ofNat l = Int32.ofNat (5 * l) := (Int32.ofNat_mul 5 l).symm
theorem pM6 (l : Nat) : (6 : Int32) * Int32.ofNat l = Int32.ofNat (6 * l) := (Int32.ofNat_mul 6 l).symm
theorem pM17 (l : Nat) : (17 : Int32) * Int32.ofNat l = Int32.ofNat (17 * l) := (Int32.ofNat_mul 17 l).symm
theorem pA (a b : Nat) : Int32.ofNat a + Int32.ofNat b = Int32.ofNat (a + b) := (Int32.ofNat_add a b).symm
theorem pA1 (a : Nat) : Int32.ofNat a + 1 = Int32.ofNat (a + 1) := (Int32.ofNat_add a 1).symm
theorem pA2 (a : Nat) : Int32.ofNat a + 2 = Int32.ofNat (a + 2) := (Int32.ofNat_add a 2).symm
theorem pA3 (a : Nat) : Int32.ofNat a + 3 = Int32.ofNat (a + 3) := (Int32.ofNat_add a 3).symm
theorem pA4 (a : Nat) : Int32.ofNat a + 4 = Int32.ofNat (a + 4) := (Int32.ofNat_add a 4).symm
theorem pA5 (a : Nat) : Int32.ofNat a + 5 = Int32.ofNat (a + 5) := (Int32.ofNat_add a 5).symm
theorem pA10 (a : Nat) : Int32.ofNat a + 10 = Int32.ofNat (a + 10) := (Int32.ofNat_add a 10).symm
theorem pA12 (a : Nat) : Int32.ofNat a + 12 = Int32.ofNat (a + 12) := (Int32.ofNat_add a 12).symm
theorem pA13 (a : Nat) : Int32.ofNat a + 13 = Int32.ofNat (a + 13) := (Int32.ofNat_add a 13).symm
theorem pA14 (a : Nat) : Int32.ofNat a + 14 = Int32.ofNat (a + 14) := (Int32.ofNat_add a 14).symm
theorem pA15 (a : Nat) : Int32.ofNat a + 15 = Int32.ofNat (a + 15) := (Int32.ofNat_add a 15).symm
theorem pA16 (a : Nat) : Int32.ofNat a + 16 = Int32.ofNat (a + 16) := (Int32.ofNat_add a 16).symm
theorem pA17 (a : Nat) : Int32.ofNat a + 17 = Int32.ofNat (a + 17) := (Int32.ofNat_add a 17).symm
theorem pA18 (a : Nat) : Int32.ofNat a + 18 = Int32.ofNat (a + 18) := (Int32.ofNat_add a 18).symm
theorem pA20 (a : Nat) : Int32.ofNat a + 20 = Int32.ofNat (a + 20) := (Int32.ofNat_add a 20).symm
theorem pLe0 {x : Int32} (h : x = 0 ∨ x = 1 ∨ x = 2) : x ≤ 0 ↔ x = 0 := by
  rcases h with h | h | h <;> rw [h] <;> decide
theorem pHs_ne (hr : pHr H) : (H 0 + H 1).toInt64 * (H 0 + H 1).toInt64 + (H 6).toInt64 * (H 6).toInt64 ≠ 0 := by
  obtain ⟨b0, b1, b2, b3, b4, b5, b6, _⟩ := hr
  unfold pBd at b0 b1 b6
  have e : (H 0 + H 1).toInt = (H 0).toInt + (H 1).toInt := pI_add (by omega) (by omega)
  exact pW_ne (by omega) (by omega) (by omega) (by omega)
theorem pHt_ne (hr : pHr H) : (H 2).toInt64 * (H 2).toInt64 + (H 7).toInt64 * (H 7).toInt64 ≠ 0 := by
  obtain ⟨b0, b1, b2, b3, b4, b5, b6, b7, _⟩ := hr
  unfold pBd at b2 b7
  exact pW_ne (by omega) (by omega) (by omega) (by omega)
theorem s_begins {l : Nat} (hl : l < 6) (h : pHm σ l H) (hr : pHr H) : Rn G (d + 2) 170 [.ref 33, .int (Int32.ofNat l)] σ = oI (pOne0 H) σ := by
  obtain ⟨h1, h2, h3, h4, h5, h6⟩ := h
  have q8 : σ.1 51 2 = H 8 := h2 2 (by decide)
  have q9 : σ.1 51 3 = H 9 := h2 3 (by decide)
  have q6 : σ.1 51 0 = H 6 := h2 0 (by decide)
  rw [e_Md_begins, pM5, pA1, pA3, pA4, pIx (by omega) (by decide), pIx (by omega) (by decide), pIx (by omega) (by decide), q6, h1 0 (by decide), h1 1 (by decide), h1 3 (by decide), s_wgtM (pHs_ne hr), pCI, s_pullM, pCI, h4, h5, h6, q8, q9]
  simp (decide := true) only [pCI, pCV, pCL, pXV, pXVt, pXI, pXIt, pSI_ne, pSI_2, s_pullM, q8, q9]
  unfold pOne0 pOneA
  obtain ⟨_, _, _, _, _, _, _, _, r8, r9, _⟩ := hr
  by_cases k8 : H 8 = 1
  · rw [if_neg (by rw [k8]; decide), if_pos k8, pOneB1 k8]
    by_cases k9 : H 9 = 1
    · rw [if_neg (by rw [k9]; decide), if_pos k9, pOneC1 k9]
    · by_cases k9' : H 9 = 2
      · rw [if_neg (by rw [k9']; decide), if_neg k9, pOneC2 k9 k9']
      · rw [if_pos ((pLe0 r9).mpr (by rcases r9 with r | r | r <;> first | exact r | exact absurd r k9 | exact absurd r k9')), pOneC3 k9 k9']
  · by_cases k8' : H 8 = 2
    · rw [if_neg (by rw [k8']; decide), if_neg k8, pOneB2 k8 k8']
      by_cases k9 : H 9 = 1
      · rw [if_neg (by rw [k9]; decide), if_pos k9, pOneC1 k9]
      · by_cases k9' : H 9 = 2
        · rw [if_neg (by rw [k9']; decide), if_neg k9, pOneC2 k9 k9']
        · rw [if_pos ((pLe0 r9).mpr (by rcases r9 with r | r | r <;> first | exact r | exact absurd r k9 | exact absurd r k9')), pOneC3 k9 k9']
    · rw [if_pos ((pLe0 r8).mpr (by rcases r8 with r | r | r <;> first | exact r | exact absurd r k8 | exact absurd r k8')), pOneB3 k8 k8']
      by_cases k9 : H 9 = 1
      · rw [if_neg (by rw [k9]; decide), if_pos k9, pOneC1 k9]
      · by_cases k9' : H 9 = 2
        · rw [if_neg (by rw [k9']; decide), if_neg k9, pOneC2 k9 k9']
        · rw [if_pos ((pLe0 r9).mpr (by rcases r9 with r | r | r <;> first | exact r | exact absurd r k9 | exact absurd r k9')), pOneC3 k9 k9']
theorem s_strokeOn {l : Nat} (hl : l < 6) (h : pHm σ l H) (hr : pHr H) {x : Int32} : Rn G (d + 2) 172 [.ref 33, .int (Int32.ofNat l), .int x] σ = oI (pStroke H x) σ := by
  have q7 : σ.1 51 1 = H 7 := h.2.1 1 (by decide)
  rw [e_Md_strokeOn, q7, h.1 2 (by decide), s_wgtM (pHt_ne hr), pCI, pM5, pA1, pIx (by omega) (by decide), s_pullM, pCI, h.2.2.2.1, pStroke_def]
theorem s_behind_loop {l : Nat} (hl : l < 6) (h : pHm σ l H) (hr : pHr H) {n : Nat} (hn : n < 2147483648) : ∀ (k i : Nat) (x : Int32), i + k = n → Lq G (d + 2) M_169 (9, [some (.ref 33), some (.int (Int32.ofNat l)), some (.int (Int32.ofNat n)), some (.int x), some (.int (Int32.ofNat i))], [], σ) = oI (if H 10 = 0 then pIter (pStroke H) k x else x) σ := by
  have q : σ.1 51 4 = H 10 := h.2.1 4 (by decide)
  intro k
  induction k with
  | zero =>
    intro i x hi
    have e : i = n := hi
    subst e
    rw [c_Md_behind_9, if_pos (Int32.le_refl _), pIter_zero, ite_self]
  | succ k ih =>
    intro i x hi
    rw [c_Md_behind_9, if_neg (pGo (by omega) hn), q]
    by_cases h0 : H 10 = 0
    · rw [if_pos h0, if_pos h0, s_strokeOn hl h hr, pCI, pN_s, ih (i + 1) _ (by omega), if_pos h0, pIter_succ]
    · rw [if_neg h0, if_neg h0]
theorem s_behind {l : Nat} (hl : l < 6) (h : pHm σ l H) (hr : pHr H) {n : Nat} (hn : n < 2147483648) : Rn G (d + 3) 169 [.ref 33, .int (Int32.ofNat l), .int (Int32.ofNat n)] σ = oI (pBehind H n) σ := by
  rw [e_Md_behind, s_begins hl h hr, pCI]
  exact s_behind_loop hl h hr hn n 0 _ (Nat.zero_add n)
theorem s_heldBy {l : Nat} (hl : l < 6) (h : pHm σ l H) (hr : pHr H) : Rn G (d + 4) 179 [.ref 33, .int (Int32.ofNat l)] σ = oI (pHeld H) σ := by
  have q5 : σ.1 51 5 = H 11 := h.2.1 5 (by decide)
  rw [e_Md_heldBy, pM5, pIx (by omega) (by decide), h.2.2.1, h.1 5 (by decide), q5]
  unfold pHeld
  by_cases h0 : H 12 = 0
  · rw [if_pos h0, if_pos h0]
  · rw [if_neg h0, if_neg h0]
    by_cases h2 : H 12 = 2
    · rw [if_pos h2, if_pos h2]
    · rw [if_neg h2, if_neg h2, hr.2.2.2.2.2.2.2.2.2.2.2.1.nn (by omega), s_behind hl h hr (Int32.toNatClampNeg_lt _), pCI, pN_cl (Int32.toNatClampNeg_lt _)]
theorem s_driftBy {l : Nat} (hl : l < 6) (h : pHm σ l H) (hr : pHr H) : Rn G (d + 5) 180 [.ref 33, .int (Int32.ofNat l)] σ = oI (pDrift H (pHeld H)) σ := by
  have q0 : σ.1 51 0 = H 6 := h.2.1 0 (by decide)
  rw [e_Md_driftBy, pM5, pIx (by omega) (by decide), h.2.2.1, s_heldBy hl h hr, pCI, h.1 5 (by decide), q0, h.1 1 (by decide), h.1 0 (by decide)]
  unfold pDrift
  by_cases h0 : H 12 = 2
  · rw [if_pos h0, if_pos h0]
  · have b0 := hr.1
    have b1 := hr.2.1
    unfold pBd at b0 b1
    rw [if_neg h0, if_neg h0]
    unfold aNzL
    rw [if_neg (pW_ne2 (by omega) (by omega) (by omega) (by omega)), ← Int64.mul_assoc (H 6).toInt64 (H 1).toInt64 (H 1).toInt64]
theorem s_comesBy_loop {l : Nat} (hl : l < 6) (h : pHm σ l H) (hr : pHr H) {n : Nat} (hn : H 11 = Int32.ofNat n) (hn2 : n < 2147483647) : ∀ (k i : Nat) (x : Int32), i + k = n + 1 → Lq G (d + 2) M_181 (8, [some (.ref 33), some (.int (Int32.ofNat l)), some (.int x), some (.int (Int32.ofNat i))], [], σ) = oI (pComesL H k i x) σ := by
  have q5 : σ.1 51 5 = Int32.ofNat n := (h.2.1 5 (by decide)).trans hn
  have q4 : σ.1 51 4 = H 10 := h.2.1 4 (by decide)
  intro k
  induction k with
  | zero =>
    intro i x hi
    have e : i = n + 1 := hi
    subst e
    rw [c_Md_comesBy_8, q5, if_pos ((pN_lt (by omega) (by omega)).mpr (by omega)), pComesL_zero]
  | succ k ih =>
    intro i x hi
    rw [c_Md_comesBy_8, q5, q4, if_neg (fun h2 => absurd ((pN_lt (by omega) (by omega)).mp h2) (by omega))]
    rw [pComesL_succ]
    by_cases hx : x < 500000
    · rw [if_pos hx, if_pos hx, s_strokeOn hl h hr, pCI, pN_s, ih (i + 1) _ (by omega), ih (i + 1) _ (by omega)]
      by_cases h0 : H 10 = 0
      · rw [if_pos h0, if_pos h0]
      · rw [if_neg h0, if_neg h0]
    · rw [if_neg hx, if_neg hx]
theorem s_comesBy {l : Nat} (hl : l < 6) (h : pHm σ l H) (hr : pHr H) : Rn G (d + 3) 181 [.ref 33, .int (Int32.ofNat l)] σ = oI (pComes H) σ := by
  have b := hr.2.2.2.2.2.2.2.2.2.2.2.1
  have b1 := b.lt (by omega)
  unfold pBd at b
  rw [e_Md_comesBy, s_begins hl h hr, pCI]
  exact s_comesBy_loop hl h hr (hr.2.2.2.2.2.2.2.2.2.2.2.1.nn (by omega)) (by omega) _ 0 _ (Nat.zero_add _)
theorem s_feltBy {l : Nat} (hl : l < 6) (h : pHm σ l H) (hr : pHr H) : Rn G (d + 5) 190 [.ref 33, .int (Int32.ofNat l)] σ = oI (pFelt H (pHeld H)) σ := by
  have q4 : σ.1 51 4 = H 10 := h.2.1 4 (by decide)
  rw [e_Md_feltBy, q4, h.1 5 (by decide), s_heldBy hl h hr, pCI]
  unfold pFelt
  by_cases h0 : H 10 = 1
  · rw [if_pos h0, if_pos h0]
  · rw [if_neg h0, if_neg h0]
theorem s_slowBy {l : Nat} (hl : l < 6) (h : pHm σ l H) (hr : pHr H) : Rn G (d + 4) 191 [.ref 33, .int (Int32.ofNat l)] σ = oI (pSlow H) σ := by
  have q5 : σ.1 51 5 = H 11 := h.2.1 5 (by decide)
  rw [e_Md_slowBy, pM5, pIx (by omega) (by decide), h.2.2.1, h.1 5 (by decide), q5, s_comesBy hl h hr, pCI, q5]
  unfold pSlow
  by_cases h0 : H 12 = 0
  · rw [if_pos h0, if_pos h0]
  · rw [if_neg h0, if_neg h0]
    by_cases h2 : H 12 = 2
    · rw [if_pos h2, if_pos h2]
    · rw [if_neg h2, if_neg h2]
      by_cases h3 : pComes H = -1
      · rw [if_pos h3, if_pos h3]
      · rw [if_neg h3, if_neg h3]
end PHead
