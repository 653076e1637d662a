/-! ===== a head is taken ===== -/
/-! a head is made of a house's numbers -/
def mkH (P S L : Nat → Int32) (p s l : Nat) : Nat → Int32 := fun k => if k < 6 then P (6 * p + k) else if k < 12 then S (6 * s + (k - 6)) else if k = 12 then L (5 * l) else if k = 13 then L (5 * l + 1) else if k = 14 then L (5 * l + 3) else L (5 * l + 4)
section PTake
variable {G : Nat × (Nat → Int32)} {d : Nat} {σ : aH}
/-- what a head's law, person and sitting are, one by one -/
def pHcL (σ : aH) (l : Nat) (L : Nat → Int32) : Prop := σ.1 24 12 = L (5 * l) ∧ σ.1 24 13 = L (5 * l + 1) ∧ σ.1 24 14 = L (5 * l + 3) ∧ σ.1 24 15 = L (5 * l + 4)
def pHcP (σ : aH) (p : Nat) (P : Nat → Int32) : Prop := ∀ k, k < 6 → σ.1 24 k = P (6 * p + k)
def pHcS (σ : aH) (s : Nat) (S : Nat → Int32) : Prop := ∀ k, k < 6 → σ.1 24 (6 + k) = S (6 * s + k)
theorem pHc_of {P S L : Nat → Int32} {p s l : Nat} (h1 : pHcP σ p P) (h2 : pHcS σ s S) (h3 : pHcL σ l L) : pHc σ (mkH P S L p s l) := by
  intro k hk
  unfold mkH
  by_cases k6 : k < 6
  · rw [if_pos k6]; exact h1 k k6
  · rw [if_neg k6]
    by_cases k12 : k < 12
    · rw [if_pos k12]
      have := h2 (k - 6) (by omega)
      rw [show 6 + (k - 6) = k by omega] at this
      exact this
    · rw [if_neg k12]
      rcases (show k = 12 ∨ k = 13 ∨ k = 14 ∨ k = 15 by omega) with rfl | rfl | rfl | rfl
      · exact h3.1
      · exact h3.2.1
      · exact h3.2.2.1
      · exact h3.2.2.2
theorem s_takeLaw {l : Nat} (hl : l < 6) : ∃ σ', Rn G (d + 3) 159 [.ref 24, .ref 3, .int (Int32.ofNat l)] σ = oV σ' ∧ pSame [24] σ σ' ∧ pHcL σ' l (fun i => σ.1 5 (240 + i)) ∧ ∀ k, k < 12 → σ'.1 24 k = σ.1 24 k := by
  refine ⟨(aSI (aSI (aSI (aSI σ 24 12 (σ.1 5 (240 + (5 * l + 0)))) 24 13 (σ.1 5 (240 + (5 * l + 1)))) 24 14 (σ.1 5 (240 + (5 * l + 3)))) 24 15 (σ.1 5 (240 + (5 * l + 4)))), ?_, ?_, ?_, ?_⟩
  · rw [e_Rh_Head_takeLaw]
    simp (decide := true) only [pCI, pCV, pCL, pXV, pXVt, pXI, pXIt, pSI_ne, pSI_2, s_toldL (i := l) (w := 0) (x3 := 0) rfl rfl hl (by decide), s_toldL (i := l) (w := 1) (x3 := 1) rfl rfl hl (by decide), s_toldL (i := l) (w := 3) (x3 := 3) rfl rfl hl (by decide), s_toldL (i := l) (w := 4) (x3 := 4) rfl rfl hl (by decide)]
  · exact (((pSame.rfl'.si (by decide)).si (by decide)).si (by decide)).si (by decide)
  · refine ⟨?_, ?_, ?_, ?_⟩ <;> simp (decide := true) only [pSI_of, pSI_at, pSI_ne, Nat.add_zero]
  · intro k hk
    rw [pSI_of (by omega), pSI_of (by omega), pSI_of (by omega), pSI_of (by omega)]
theorem s_takePerson {p : Nat} (hp : p < 20) : ∃ σ', Rn G (d + 3) 160 [.ref 24, .ref 3, .int (Int32.ofNat p)] σ = oV σ' ∧ pSame [24] σ σ' ∧ pHcP σ' p (fun i => σ.1 5 i) ∧ ∀ k, 6 ≤ k → σ'.1 24 k = σ.1 24 k := by
  refine ⟨(aSI (aSI (aSI (aSI (aSI (aSI σ 24 0 (σ.1 5 (6 * p + 0))) 24 1 (σ.1 5 (6 * p + 1))) 24 2 (σ.1 5 (6 * p + 2))) 24 3 (σ.1 5 (6 * p + 3))) 24 4 (σ.1 5 (6 * p + 4))) 24 5 (σ.1 5 (6 * p + 5))), ?_, ?_, ?_, ?_⟩
  · rw [e_Rh_Head_takePerson]
    simp (decide := true) only [pCI, pCV, pCL, pXV, pXVt, pXI, pXIt, pSI_ne, pSI_2, s_toldP (i := p) (w := 0) (x3 := 0) rfl rfl hp (by decide), s_toldP (i := p) (w := 1) (x3 := 1) rfl rfl hp (by decide), s_toldP (i := p) (w := 2) (x3 := 2) rfl rfl hp (by decide), s_toldP (i := p) (w := 3) (x3 := 3) rfl rfl hp (by decide), s_toldP (i := p) (w := 4) (x3 := 4) rfl rfl hp (by decide), s_toldP (i := p) (w := 5) (x3 := 5) rfl rfl hp (by decide), s_takeSpans]
  · exact (((((pSame.rfl'.si (by decide)).si (by decide)).si (by decide)).si (by decide)).si (by decide)).si (by decide)
  · intro k hk
    rcases (show k = 0 ∨ k = 1 ∨ k = 2 ∨ k = 3 ∨ k = 4 ∨ k = 5 by omega) with rfl | rfl | rfl | rfl | rfl | rfl <;> simp (decide := true) only [pSI_of, pSI_at, pSI_ne]
  · intro k hk
    rw [pSI_of (by omega), pSI_of (by omega), pSI_of (by omega), pSI_of (by omega), pSI_of (by omega), pSI_of (by omega)]
theorem s_takeSitting {s : Nat} (hs : s < 20) : ∃ σ', Rn G (d + 3) 162 [.ref 24, .ref 3, .int (Int32.ofNat s)] σ = oV σ' ∧ pSame [24] σ σ' ∧ pHcS σ' s (fun i => σ.1 5 (120 + i)) ∧ ∀ k, k < 6 ∨ 12 ≤ k → σ'.1 24 k = σ.1 24 k := by
  refine ⟨(aSI (aSI (aSI (aSI (aSI (aSI σ 24 6 (σ.1 5 (120 + (6 * s + 0)))) 24 7 (σ.1 5 (120 + (6 * s + 1)))) 24 8 (σ.1 5 (120 + (6 * s + 2)))) 24 9 (σ.1 5 (120 + (6 * s + 3)))) 24 10 (σ.1 5 (120 + (6 * s + 4)))) 24 11 (σ.1 5 (120 + (6 * s + 5)))), ?_, ?_, ?_, ?_⟩
  · rw [e_Rh_Head_takeSitting]
    simp (decide := true) only [pCI, pCV, pCL, pXV, pXVt, pXI, pXIt, pSI_ne, pSI_2, s_toldS (i := s) (w := 0) (x3 := 0) rfl rfl hs (by decide), s_toldS (i := s) (w := 1) (x3 := 1) rfl rfl hs (by decide), s_toldS (i := s) (w := 2) (x3 := 2) rfl rfl hs (by decide), s_toldS (i := s) (w := 3) (x3 := 3) rfl rfl hs (by decide), s_toldS (i := s) (w := 4) (x3 := 4) rfl rfl hs (by decide), s_toldS (i := s) (w := 5) (x3 := 5) rfl rfl hs (by decide)]
  · exact (((((pSame.rfl'.si (by decide)).si (by decide)).si (by decide)).si (by decide)).si (by decide)).si (by decide)
  · intro k hk
    rcases (show k = 0 ∨ k = 1 ∨ k = 2 ∨ k = 3 ∨ k = 4 ∨ k = 5 by omega) with rfl | rfl | rfl | rfl | rfl | rfl <;> simp (decide := true) only [pSI_of, pSI_at, pSI_ne]
  · intro k hk
    rw [pSI_of (by omega), pSI_of (by omega), pSI_of (by omega), pSI_of (by omega), pSI_of (by omega), pSI_of (by omega)]
theorem s_take {p s l : Nat} (hp : p < 20) (hs : s < 20) (hl : l < 6) {P S L : Nat → Int32} (eP : ∀ k, k < 6 → σ.1 5 (6 * p + k) = P (6 * p + k)) (eS : ∀ k, k < 6 → σ.1 5 (120 + (6 * s + k)) = S (6 * s + k)) (eL : ∀ k, k < 5 → σ.1 5 (240 + (5 * l + k)) = L (5 * l + k)) : ∃ σ', Rn G (d + 4) 158 [.ref 24, .ref 3, .int (Int32.ofNat l), .int (Int32.ofNat p), .int (Int32.ofNat s)] σ = oV σ' ∧ pSame [24] σ σ' ∧ pHc σ' (mkH P S L p s l) := by
  obtain ⟨σ1, r1, f1, g1, k1⟩ := s_takeLaw (G := G) (d := d) (σ := σ) hl
  obtain ⟨σ2, r2, f2, g2, k2⟩ := s_takePerson (G := G) (d := d) (σ := σ1) hp
  obtain ⟨σ3, r3, f3, g3, k3⟩ := s_takeSitting (G := G) (d := d) (σ := σ2) hs
  have e1 : σ1.1 5 = σ.1 5 := (f1 5 (by decide)).1
  have e2 : σ2.1 5 = σ1.1 5 := (f2 5 (by decide)).1
  refine ⟨σ3, ?_, (f1.trans f2).trans f3, pHc_of ?_ ?_ ?_⟩
  · rw [e_Rh_Head_take, r1, pCV, r2, pCV, r3, pCV]
  · intro k hk
    rw [k3 k (Or.inl hk), g2 k hk, ← eP k hk, e1]
  · intro k hk
    rw [g3 k hk, ← eS k hk, e2, e1]
  · obtain ⟨q1, q2, q3, q4⟩ := g1
    have t0 := eL 0 (by decide)
    have t1 := eL 1 (by decide)
    have t3 := eL 3 (by decide)
    have t4 := eL 4 (by decide)
    refine ⟨?_, ?_, ?_, ?_⟩
    · rw [k3 12 (Or.inr (by decide)), k2 12 (by decide), q1]
      exact t0
    · rw [k3 13 (Or.inr (by decide)), k2 13 (by decide), q2, ← t1]
    · rw [k3 14 (Or.inr (by decide)), k2 14 (by decide), q3, ← t3]
    · rw [k3 15 (Or.inr (by decide)), k2 15 (by decide), q4, ← t4]
/-! the reference's head and seat -/
theorem s_asks {p s : Nat} (hp : p < 20) (hs : s < 20) : ∃ σ', Rn G (d + 1) 168 [.ref 33, .int (Int32.ofNat p), .int (Int32.ofNat s)] σ = oV σ' ∧ pSame [50, 51] σ σ' ∧ ∀ k, k < 6 → σ'.1 50 k = σ.1 34 (6 * p + k) ∧ σ'.1 51 k = σ.1 35 (6 * s + k) := by
  rw [e_Md_asks]
  obtain ⟨b, ⟨hb1, hb2⟩, e⟩ := pLoopR0 (G := G) (d := d) (M := M_168) (fun i a => (2, [some (.ref 33), some (.int (Int32.ofNat p)), some (.int (Int32.ofNat s)), some (.int (Int32.ofNat i))], [], a)) (fun i a => pSame [50, 51] σ a ∧ ∀ k, k < i → a.1 50 k = σ.1 34 (6 * p + k) ∧ a.1 51 k = σ.1 35 (6 * s + k)) 6 σ ⟨pSame.rfl', fun k hk => absurd hk (Nat.not_lt_zero k)⟩ (by
    intro i a hi ha
    refine ⟨aSI (aSI a 50 i (a.1 34 (6 * p + i))) 51 i (a.1 35 (6 * s + i)), ⟨(ha.1.si (by decide)).si (by decide), ?_⟩, ?_⟩
    · intro k hk
      have e34 : a.1 34 = σ.1 34 := (ha.1 34 (by decide)).1
      have e35 : a.1 35 = σ.1 35 := (ha.1 35 (by decide)).1
      rw [pSI_ne (by decide : 50 ≠ 51)]
      by_cases h : k = i
      · subst h
        rw [pSI_at, pSI_at, e34, e35]
        exact ⟨rfl, rfl⟩
      · rw [pSI_of h, pSI_of h, pSI_ne (by decide : 51 ≠ 50)]
        exact ha.2 k (by omega)
    · rw [c_Md_asks_2, if_neg (pGoL (c := 6) (n := 6) rfl hi (by decide)), pM6, pM6, pA, pA, pIx (by omega) (by decide), pIx (by omega) (by decide), pIx (by omega) (by decide), pIx (by omega) (by decide), pN_s])
  refine ⟨b, ?_, hb1, hb2⟩
  refine Eq.trans e ?_
  show Lq G d M_168 (2, [some (.ref 33), some (.int (Int32.ofNat p)), some (.int (Int32.ofNat s)), some (.int (Int32.ofNat 6))], [], b) = oV b
  rw [c_Md_asks_2, if_pos (pEndL (c := 6) (n := 6) rfl)]
theorem pHm_of {P S L : Nat → Int32} {p s l : Nat} (h1 : ∀ k, k < 6 → σ.1 50 k = P (6 * p + k)) (h2 : ∀ k, k < 6 → σ.1 51 k = S (6 * s + k)) (h3 : ∀ k, k < 5 → σ.1 36 (5 * l + k) = L (5 * l + k)) : pHm σ l (mkH P S L p s l) := by
  refine ⟨?_, ?_, h3 0 (by decide), h3 1 (by decide), h3 3 (by decide), h3 4 (by decide)⟩
  · intro k hk
    unfold mkH
    rw [if_pos hk, h1 k hk]
  · intro k hk
    unfold mkH
    rw [if_neg (by omega), if_pos (by omega), show 6 + k - 6 = k by omega, h2 k hk]
end PTake
