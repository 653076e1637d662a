/-! ===== how great what is held can be; a head is taken ===== -/
theorem pDivB {a b : Int64} (h0 : 0 ≤ a.toInt) (hb : 0 < b.toInt) (h : a.toInt ≤ 1000000 * b.toInt) : pBd (a / b).toInt32 0 1000000 := by
  have hq0 : 0 ≤ a.toInt / b.toInt := Int.ediv_nonneg h0 (by omega)
  have hq1 : a.toInt / b.toInt ≤ 1000000 := by
    have h1 : a.toInt / b.toInt ≤ (1000000 * b.toInt) / b.toInt := Int.ediv_le_ediv hb h
    rw [Int.mul_ediv_cancel _ (by omega)] at h1
    exact h1
  have e : (a / b).toInt = a.toInt / b.toInt := by
    rw [Int64.toInt_div, Int.tdiv_eq_ediv_of_nonneg h0]
    exact Int.bmod_eq_of_le (by simp; omega) (by simp; omega)
  have e2 : (a / b).toInt32.toInt = a.toInt / b.toInt := by
    rw [Int64.toInt_toInt32, e]
    exact Int.bmod_eq_of_le (by simp; omega) (by simp; omega)
  unfold pBd
  rw [e2]
  exact ⟨hq0, hq1⟩
theorem pWgt_bd {x s : Int32} (h1 : 1 ≤ s.toInt) (h2 : s.toInt ≤ 9999) (h3 : -9999 ≤ x.toInt) (h4 : x.toInt ≤ 9999) : pBd (pWgt x s) 0 1000000 := by
  have q1 := pSqL (x := s) (by omega) h2
  have q2 := pSqL (x := x) h3 h4
  have q3 := pSq1 h1
  have e6 : (1000000 : Int64).toInt = 1000000 := rfl
  have e5 : (s.toInt64 * s.toInt64 + x.toInt64 * x.toInt64).toInt = s.toInt * s.toInt + x.toInt * x.toInt := by
    rw [pL_add (by rw [q1.1, q2.1]; omega) (by rw [q1.1, q2.1]; omega), q1.1, q2.1]
  have e7 : (1000000 * (s.toInt64 * s.toInt64)).toInt = 1000000 * (s.toInt * s.toInt) := by
    rw [pL_mul (by rw [e6, q1.1]; omega) (by rw [e6, q1.1]; omega), e6, q1.1]
  exact pDivB (by rw [e7]; omega) (by rw [e5]; omega) (by rw [e7, e5]; omega)
theorem pMulB {x y a b : Int} (hx0 : 0 ≤ x) (hx : x ≤ a) (hy0 : 0 ≤ y) (hy : y ≤ b) : 0 ≤ x * y ∧ x * y ≤ a * b := ⟨Int.mul_nonneg hx0 hy0, Int.mul_le_mul hx hy hy0 (by omega)⟩
theorem pPull_bd {o g t : Int32} (ho : pBd o 0 1000000) (hg : pBd g 0 1000000) (ht : pBd t 1 1000) : pBd (pPull o g t) 0 1000000 := by
  unfold pPull
  by_cases h : o.toInt64 * g.toInt64 + ((1000000 : Int32) - o).toInt64 * 1000 * t.toInt64 = 0
  · rw [if_pos h]
    exact ⟨by decide, by decide⟩
  · rw [if_neg h]
    obtain ⟨o0, o1⟩ := ho
    obtain ⟨g0, g1⟩ := hg
    obtain ⟨t0, t1⟩ := ht
    have e6 : (1000000 : Int64).toInt = 1000000 := rfl
    have e7 : (1000 : Int64).toInt = 1000 := rfl
    have e8 : (1000000 : Int32).toInt = 1000000 := rfl
    have m1 := pMulB o0 o1 g0 g1
    have f1 : (o.toInt64 * g.toInt64).toInt = o.toInt * g.toInt := by
      rw [pL_mul (by rw [Int32.toInt_toInt64, Int32.toInt_toInt64]; omega) (by rw [Int32.toInt_toInt64, Int32.toInt_toInt64]; omega), Int32.toInt_toInt64, Int32.toInt_toInt64]
    have f2 : ((1000000 : Int32) - o).toInt = 1000000 - o.toInt := by
      rw [pI_sub (by rw [e8]; omega) (by rw [e8]; omega), e8]
    have f3 : (((1000000 : Int32) - o).toInt64 * 1000).toInt = (1000000 - o.toInt) * 1000 := by
      rw [pL_mul (by rw [Int32.toInt_toInt64, f2, e7]; omega) (by rw [Int32.toInt_toInt64, f2, e7]; omega), Int32.toInt_toInt64, f2, e7]
    have m2 := pMulB (x := (1000000 - o.toInt) * 1000) (y := t.toInt) (a := 1000000000) (b := 1000) (by omega) (by omega) (by omega) t1
    have f4 : (((1000000 : Int32) - o).toInt64 * 1000 * t.toInt64).toInt = (1000000 - o.toInt) * 1000 * t.toInt := by
      rw [pL_mul (by rw [f3, Int32.toInt_toInt64]; omega) (by rw [f3, Int32.toInt_toInt64]; omega), f3, Int32.toInt_toInt64]
    have f5 : (o.toInt64 * g.toInt64 + ((1000000 : Int32) - o).toInt64 * 1000 * t.toInt64).toInt = o.toInt * g.toInt + (1000000 - o.toInt) * 1000 * t.toInt := by
      rw [pL_add (by rw [f1, f4]; omega) (by rw [f1, f4]; omega), f1, f4]
    have f6 : (o.toInt64 * g.toInt64 * 1000000).toInt = o.toInt * g.toInt * 1000000 := by
      rw [pL_mul (by rw [f1, e6]; omega) (by rw [f1, e6]; omega), f1, e6]
    have f7 : o.toInt * g.toInt + (1000000 - o.toInt) * 1000 * t.toInt ≠ 0 := by
      intro h1
      apply h
      apply Int64.toInt_inj.mp
      rw [f5, h1]
      rfl
    exact pDivB (by rw [f6]; omega) (by rw [f5]; omega) (by rw [f6, f5]; omega)
theorem pMul1000 {x : Int32} (h : pBd x 0 1000) : pBd (1000 * x) 0 1000000 := by
  obtain ⟨h0, h1⟩ := h
  have e : (1000 * x).toInt = 1000 * x.toInt := pI_mul (by show _ ≤ (1000 : Int) * _; omega) (by show (1000 : Int) * _ < _; omega)
  unfold pBd
  rw [e]
  omega
theorem pDiv2 {x : Int32} {b : Int} (h : pBd x 0 b) (hb : b < 2147483648) : pBd (x / 2) 0 (b / 2) := by
  obtain ⟨h0, h1⟩ := h
  have e2 : (2 : Int32).toInt = 2 := rfl
  have e : (x / 2).toInt = x.toInt / 2 := by
    rw [Int32.toInt_div, e2, Int.tdiv_eq_ediv_of_nonneg h0]
    exact Int.bmod_eq_of_le (by simp; omega) (by simp; omega)
  unfold pBd
  rw [e]
  omega
theorem pBd.mono {x : Int32} {a b c e : Int} (h : pBd x a b) (h1 : c ≤ a) (h2 : b ≤ e) : pBd x c e := ⟨Int.le_trans h1 h.1, Int.le_trans h.2 h2⟩
theorem pOne0_bd {H : Nat → Int32} (hr : pHr H) : pBd (pOne0 H) 0 1000000 := by
  obtain ⟨b0, b1, b2, b3, b4, b5, b6, b7, b8, b9, b10, b11, b12, b13, b14, b15⟩ := hr
  have e : (H 0 + H 1).toInt = (H 0).toInt + (H 1).toInt := pI_add (by have := b0.1; have := b1.1; omega) (by have := b0.2; have := b1.2; omega)
  have ha : pBd (pOneA H) 0 1000000 := pPull_bd (pMul1000 b3) (pWgt_bd (by have := b0.1; have := b1.1; omega) (by have := b0.2; have := b1.2; omega) (by have := b6.1; omega) (by have := b6.2; omega)) b13
  have hb : pBd (pOneB H (pOneA H)) 0 1000000 := by
    unfold pOneB
    split
    · exact pPull_bd ha (pMul1000 b14) b13
    · split
      · refine pPull_bd ha (pMul1000 ?_) b13
        have e2 : (1000 + H 14).toInt = 1000 + (H 14).toInt := pI_add (by show _ ≤ (1000 : Int) + _; have := b14.1; omega) (by show (1000 : Int) + _ < _; have := b14.2; omega)
        exact (pDiv2 (b := 2000) ⟨by rw [e2]; have := b14.1; omega, by rw [e2]; have := b14.2; omega⟩ (by decide)).mono (Int.le_refl _) (by decide)
      · exact ha
  show pBd (pOneC H (pOneB H (pOneA H))) 0 1000000
  unfold pOneC
  split
  · exact pPull_bd hb (pMul1000 b15) b13
  · split
    · exact pPull_bd hb (pMul1000 ((pDiv2 b15 (by decide)).mono (Int.le_refl _) (by decide))) b13
    · exact hb
theorem pStroke_bd {H : Nat → Int32} (hr : pHr H) {x : Int32} (hx : pBd x 0 1000000) : pBd (pStroke H x) 0 1000000 := by
  obtain ⟨b0, b1, b2, b3, b4, b5, b6, b7, b8, b9, b10, b11, b12, b13, b14, b15⟩ := hr
  exact pPull_bd hx (pWgt_bd b2.1 (by have := b2.2; omega) (by have := b7.1; omega) (by have := b7.2; omega)) b13
theorem pIter_bd {H : Nat → Int32} (hr : pHr H) : ∀ (n : Nat) (x : Int32), pBd x 0 1000000 → pBd (pIter (pStroke H) n x) 0 1000000
  | 0, _, h => h
  | n + 1, _, h => pIter_bd hr n _ (pStroke_bd hr h)
theorem pBehind_bd {H : Nat → Int32} (hr : pHr H) (n : Nat) : pBd (pBehind H n) 0 1000000 := by
  unfold pBehind
  split
  · exact pIter_bd hr n _ (pOne0_bd hr)
  · exact pOne0_bd hr
theorem pHeld_bd {H : Nat → Int32} (hr : pHr H) : pBd (pHeld H) 0 1000000 := by
  unfold pHeld
  split
  · exact ⟨by decide, by decide⟩
  · split
    · have b5 := hr.2.2.2.2.2.1
      have e : (10000 * H 5).toInt = 10000 * (H 5).toInt := pI_mul (by show _ ≤ (10000 : Int) * _; have := b5.1; omega) (by show (10000 : Int) * _ < _; have := b5.2; omega)
      exact ⟨by rw [e]; have := b5.1; omega, by rw [e]; have := b5.2; omega⟩
    · exact pBehind_bd hr _
/-- what stands at the start, by both sides' sums -/
theorem pStart_eq {x : Int32} (h : pBd x 0 1000000) : (100 * x.toInt64 / 1000000).toInt32 = 100 * x / 1000000 := by
  obtain ⟨h0, h1⟩ := h
  have e6 : (1000000 : Int64).toInt = 1000000 := rfl
  have e7 : (100 : Int64).toInt = 100 := rfl
  have e8 : (1000000 : Int32).toInt = 1000000 := rfl
  have e9 : (100 : Int32).toInt = 100 := rfl
  have f1 : (100 * x.toInt64).toInt = 100 * x.toInt := by
    rw [pL_mul (by rw [Int32.toInt_toInt64, e7]; omega) (by rw [Int32.toInt_toInt64, e7]; omega), Int32.toInt_toInt64, e7]
  have f2 : (100 * x).toInt = 100 * x.toInt := by
    rw [pI_mul (by rw [e9]; omega) (by rw [e9]; omega), e9]
  apply Int32.toInt_inj.mp
  rw [Int64.toInt_toInt32, Int64.toInt_div, Int32.toInt_div, f1, f2, e6, e8, Int.tdiv_eq_ediv_of_nonneg (by omega)]
  rw [Int.bmod_eq_of_le (n := 100 * x.toInt / 1000000) (m := 2 ^ 64) (by simp; omega) (by simp; omega)]
/-! a head is made of a house's numbers -/
def mkH (P S L : Nat → Int32) (p s l : Nat) : Nat → Int32 := fun k => if k < 6 then P (6 * p + k) else if k < 12 then S (6 * s + (k - 6)) else if k = 12 then L (5 * l) else if k = 13 then L (5 * l + 1) else if k = 14 then L (5 * l + 3) else L (5 * l + 4)
section PTake
variable {G : Nat × (Nat → Int32)} {d : Nat} {σ : aH}
/-- what a head's law, person and sitting are, one by one -/
def pHcL (σ : aH) (l : Nat) (L : Nat → Int32) : Prop := σ.1 24 12 = L (5 * l) ∧ σ.1 24 13 = L (5 * l + 1) ∧ σ.1 24 14 = L (5 * l + 3) ∧ σ.1 24 15 = L (5 * l + 4)
def pHcP (σ : aH) (p : Nat) (P : Nat → Int32) : Prop := ∀ k, k < 6 → σ.1 24 k = P (6 * p + k)
def pHcS (σ : aH) (s : Nat) (S : Nat → Int32) : Prop := ∀ k, k < 6 → σ.1 24 (6 + k) = S (6 * s + k)
theorem pHc_of {P S L : Nat → Int32} {p s l : Nat} (h1 : pHcP σ p P) (h2 : pHcS σ s S) (h3 : pHcL σ l L) : pHc σ (mkH P S L p s l) := by
  intro k hk
  unfold mkH
  by_cases k6 : k < 6
  · rw [if_pos k6]; exact h1 k k6
  · rw [if_neg k6]
    by_cases k12 : k < 12
    · rw [if_pos k12]
      have := h2 (k - 6) (by omega)
      rw [show 6 + (k - 6) = k by omega] at this
      exact this
    · rw [if_neg k12]
      rcases (show k = 12 ∨ k = 13 ∨ k = 14 ∨ k = 15 by omega) with rfl | rfl | rfl | rfl
      · exact h3.1
      · exact h3.2.1
      · exact h3.2.2.1
      · exact h3.2.2.2
theorem s_takeLaw {l : Nat} (hl : l < 6) : ∃ σ', Rn G (d + 3) 159 [.ref 24, .ref 3, .int (Int32.ofNat l)] σ = oV σ' ∧ pSame [24] σ σ' ∧ pHcL σ' l (fun i => σ.1 5 (240 + i)) ∧ ∀ k, k < 12 → σ'.1 24 k = σ.1 24 k := by
  refine ⟨_, ?_, ?_, ?_, ?_⟩
  · rw [e_Rh_Head_takeLaw]
    simp (decide := true) only [pCI, pCV, pCL, pXV, pXVt, pXI, pXIt, pSI_ne, pSI_2, s_toldL (i := l) (w := 0) (x3 := 0) rfl rfl hl (by decide), s_toldL (i := l) (w := 1) (x3 := 1) rfl rfl hl (by decide), s_toldL (i := l) (w := 3) (x3 := 3) rfl rfl hl (by decide), s_toldL (i := l) (w := 4) (x3 := 4) rfl rfl hl (by decide)]
  · exact (((pSame.rfl'.si (by decide)).si (by decide)).si (by decide)).si (by decide)
  · refine ⟨?_, ?_, ?_, ?_⟩ <;> simp (decide := true) only [pSI_of, pSI_at, pSI_ne, Nat.add_zero]
  · intro k hk
    rw [pSI_of (by omega), pSI_of (by omega), pSI_of (by omega), pSI_of (by omega)]
theorem s_takePerson {p : Nat} (hp : p < 20) : ∃ σ', Rn G (d + 3) 160 [.ref 24, .ref 3, .int (Int32.ofNat p)] σ = oV σ' ∧ pSame [24] σ σ' ∧ pHcP σ' p (fun i => σ.1 5 i) ∧ ∀ k, 6 ≤ k → σ'.1 24 k = σ.1 24 k := by
  refine ⟨_, ?_, ?_, ?_, ?_⟩
  · rw [e_Rh_Head_takePerson]
    simp (decide := true) only [pCI, pCV, pCL, pXV, pXVt, pXI, pXIt, pSI_ne, pSI_2, s_toldP (i := p) (w := 0) (x3 := 0) rfl rfl hp (by decide), s_toldP (i := p) (w := 1) (x3 := 1) rfl rfl hp (by decide), s_toldP (i := p) (w := 2) (x3 := 2) rfl rfl hp (by decide), s_toldP (i := p) (w := 3) (x3 := 3) rfl rfl hp (by decide), s_toldP (i := p) (w := 4) (x3 := 4) rfl rfl hp (by decide), s_toldP (i := p) (w := 5) (x3 := 5) rfl rfl hp (by decide), s_takeSpans]
  · exact (((((pSame.rfl'.si (by decide)).si (by decide)).si (by decide)).si (by decide)).si (by decide)).si (by decide)
  · intro k hk
    rcases (show k = 0 ∨ k = 1 ∨ k = 2 ∨ k = 3 ∨ k = 4 ∨ k = 5 by omega) with rfl | rfl | rfl | rfl | rfl | rfl <;> simp (decide := true) only [pSI_of, pSI_at, pSI_ne]
  · intro k hk
    rw [pSI_of (by omega), pSI_of (by omega), pSI_of (by omega), pSI_of (by omega), pSI_of (by omega), pSI_of (by omega)]
theorem s_takeSitting {s : Nat} (hs : s < 20) : ∃ σ', Rn G (d + 3) 162 [.ref 24, .ref 3, .int (Int32.ofNat s)] σ = oV σ' ∧ pSame [24] σ σ' ∧ pHcS σ' s (fun i => σ.1 5 (120 + i)) ∧ ∀ k, k < 6 ∨ 12 ≤ k → σ'.1 24 k = σ.1 24 k := by
  refine ⟨_, ?_, ?_, ?_, ?_⟩
  · rw [e_Rh_Head_takeSitting]
    simp (decide := true) only [pCI, pCV, pCL, pXV, pXVt, pXI, pXIt, pSI_ne, pSI_2, s_toldS (i := s) (w := 0) (x3 := 0) rfl rfl hs (by decide), s_toldS (i := s) (w := 1) (x3 := 1) rfl rfl hs (by decide), s_toldS (i := s) (w := 2) (x3 := 2) rfl rfl hs (by decide), s_toldS (i := s) (w := 3) (x3 := 3) rfl rfl hs (by decide), s_toldS (i := s) (w := 4) (x3 := 4) rfl rfl hs (by decide), s_toldS (i := s) (w := 5) (x3 := 5) rfl rfl hs (by decide)]
  · exact (((((pSame.rfl'.si (by decide)).si (by decide)).si (by decide)).si (by decide)).si (by decide)).si (by decide)
  · intro k hk
    rcases (show k = 0 ∨ k = 1 ∨ k = 2 ∨ k = 3 ∨ k = 4 ∨ k = 5 by omega) with rfl | rfl | rfl | rfl | rfl | rfl <;> simp (decide := true) only [pSI_of, pSI_at, pSI_ne]
  · intro k hk
    rw [pSI_of (by omega), pSI_of (by omega), pSI_of (by omega), pSI_of (by omega), pSI_of (by omega), pSI_of (by omega)]
theorem s_take {p s l : Nat} (hp : p < 20) (hs : s < 20) (hl : l < 6) {P S L : Nat → Int32} (eP : ∀ k, k < 6 → σ.1 5 (6 * p + k) = P (6 * p + k)) (eS : ∀ k, k < 6 → σ.1 5 (120 + (6 * s + k)) = S (6 * s + k)) (eL : ∀ k, k < 5 → σ.1 5 (240 + (5 * l + k)) = L (5 * l + k)) : ∃ σ', Rn G (d + 4) 158 [.ref 24, .ref 3, .int (Int32.ofNat l), .int (Int32.ofNat p), .int (Int32.ofNat s)] σ = oV σ' ∧ pSame [24] σ σ' ∧ pHc σ' (mkH P S L p s l) := by
  obtain ⟨σ1, r1, f1, g1, k1⟩ := s_takeLaw (G := G) (d := d) (σ := σ) hl
  obtain ⟨σ2, r2, f2, g2, k2⟩ := s_takePerson (G := G) (d := d) (σ := σ1) hp
  obtain ⟨σ3, r3, f3, g3, k3⟩ := s_takeSitting (G := G) (d := d) (σ := σ2) hs
  have e1 : σ1.1 5 = σ.1 5 := (f1 5 (by decide)).1
  have e2 : σ2.1 5 = σ1.1 5 := (f2 5 (by decide)).1
  refine ⟨σ3, ?_, (f1.trans f2).trans f3, pHc_of ?_ ?_ ?_⟩
  · rw [e_Rh_Head_take, r1, pCV, r2, pCV, r3, pCV]
  · intro k hk
    rw [k3 k (Or.inl hk), g2 k hk, ← eP k hk, e1]
  · intro k hk
    rw [g3 k hk, ← eS k hk, e2, e1]
  · obtain ⟨q1, q2, q3, q4⟩ := g1
    have t0 := eL 0 (by decide)
    have t1 := eL 1 (by decide)
    have t3 := eL 3 (by decide)
    have t4 := eL 4 (by decide)
    refine ⟨?_, ?_, ?_, ?_⟩
    · rw [k3 12 (Or.inr (by decide)), k2 12 (by decide), q1, ← t0]
    · rw [k3 13 (Or.inr (by decide)), k2 13 (by decide), q2, ← t1]
    · rw [k3 14 (Or.inr (by decide)), k2 14 (by decide), q3, ← t3]
    · rw [k3 15 (Or.inr (by decide)), k2 15 (by decide), q4, ← t4]
/-! the reference's head and seat -/
theorem s_asks {p s : Nat} (hp : p < 20) (hs : s < 20) : ∃ σ', Rn G (d + 1) 168 [.ref 33, .int (Int32.ofNat p), .int (Int32.ofNat s)] σ = oV σ' ∧ pSame [50, 51] σ σ' ∧ ∀ k, k < 6 → σ'.1 50 k = σ.1 34 (6 * p + k) ∧ σ'.1 51 k = σ.1 35 (6 * s + k) := by
  rw [e_Md_asks]
  obtain ⟨b, ⟨hb1, hb2⟩, e⟩ := pLoopR0 (G := G) (d := d) (M := M_168) (fun i a => (2, [some (.ref 33), some (.int (Int32.ofNat p)), some (.int (Int32.ofNat s)), some (.int (Int32.ofNat i))], [], a)) (fun i a => pSame [50, 51] σ a ∧ ∀ k, k < i → a.1 50 k = σ.1 34 (6 * p + k) ∧ a.1 51 k = σ.1 35 (6 * s + k)) 6 σ ⟨pSame.rfl', fun k hk => absurd hk (Nat.not_lt_zero k)⟩ (by
    intro i a hi ha
    refine ⟨aSI (aSI a 50 i (a.1 34 (6 * p + i))) 51 i (a.1 35 (6 * s + i)), ⟨(ha.1.si (by decide)).si (by decide), ?_⟩, ?_⟩
    · intro k hk
      have e34 : a.1 34 = σ.1 34 := (ha.1 34 (by decide)).1
      have e35 : a.1 35 = σ.1 35 := (ha.1 35 (by decide)).1
      rw [pSI_ne (by decide : 50 ≠ 51)]
      by_cases h : k = i
      · subst h
        rw [pSI_at, pSI_at, e34, e35]
        exact ⟨rfl, rfl⟩
      · rw [pSI_of h, pSI_of h, pSI_ne (by decide : 51 ≠ 50)]
        exact ha.2 k (by omega)
    · rw [c_Md_asks_2, if_neg (pGo (n := 6) hi (by decide)), pM6, pM6, pA, pA, pIx (by omega) (by decide), pIx (by omega) (by decide), pIx (by omega) (by decide), pIx (by omega) (by decide), pN_s])
  refine ⟨b, ?_, hb1, hb2⟩
  refine Eq.trans e ?_
  show Lq G d M_168 (2, [some (.ref 33), some (.int (Int32.ofNat p)), some (.int (Int32.ofNat s)), some (.int (Int32.ofNat 6))], [], b) = oV b
  rw [c_Md_asks_2, if_pos (pEnd (n := 6))]
theorem pHm_of {P S L : Nat → Int32} {p s l : Nat} (h1 : ∀ k, k < 6 → σ.1 50 k = P (6 * p + k)) (h2 : ∀ k, k < 6 → σ.1 51 k = S (6 * s + k)) (h3 : ∀ k, k < 5 → σ.1 36 (5 * l + k) = L (5 * l + k)) : pHm σ l (mkH P S L p s l) := by
  refine ⟨?_, ?_, h3 0 (by decide), h3 1 (by decide), h3 3 (by decide), h3 4 (by decide)⟩
  · intro k hk
    unfold mkH
    rw [if_pos hk, h1 k hk]
  · intro k hk
    unfold mkH
    rw [if_neg (by omega), if_pos (by omega), show 6 + k - 6 = k by omega, h2 k hk]
end PTake
