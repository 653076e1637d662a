/-! ===== the end of a sheet's reading: the reference ===== -/
section PRTail
variable {G : Nat × (Nat → Int32)} {d k : Nat} {σ : aH} {T : Tx} {s : Nat × Nat}
def rF4 (σ b : aH) : Prop := pSame [33, 40, 53, 54] σ b ∧ ∀ x, x < 16 ∨ x = 18 ∨ 25 < x → b.1 33 x = σ.1 33 x
theorem rF4.trans {σ a b : aH} (f : rF4 σ a) (g : rF4 a b) : rF4 σ b := ⟨f.1.trans g.1, fun x hx => (g.2 x hx).trans (f.2 x hx)⟩
theorem rF4.fr {σ a b : aH} (f : rF4 σ a) (g : rFr a b) : rF4 σ b := ⟨f.1.trans (g.1.mono (by decide)), fun x hx => (g.2 x hx).trans (f.2 x hx)⟩
theorem rFr.f4 {σ a : aH} (f : rFr σ a) : rF4 σ a := ⟨f.1.mono (by decide), f.2⟩
theorem rF4.si {σ b : aH} (f : rF4 σ b) {o j : Nat} {x : Int32} (h : o ∈ [40, 53, 54]) : rF4 σ (aSI b o j x) := by
  refine ⟨f.1.si (List.mem_cons_of_mem _ h), fun y hy => ?_⟩
  have n : 33 ≠ o := by
    intro e
    subst e
    exact absurd h (by decide)
  rw [pSI_ne n]
  exact f.2 y hy
theorem aIx17 {ρ : Type} {c : Nat} {y : Int32} (hk : k < 60) (hy : y = Int32.ofNat c) (hc : c < 17) (f : Nat → Option ρ) : aIx ((17 : Int32) * Int32.ofNat k + y) 1020 f = f (17 * k + c) := by
  rw [hy, pM17, pA, pIx (by omega) (by decide)]
theorem s_tlM (q : RS σ T s) (hk : k < 60) : ∃ b, tlM G (d + 5) (Int32.ofNat k) σ = oV b ∧ rF4 σ b ∧ RS b T (yE T s) ∧ (∀ j, (j < 17 * k + 13 ∨ 17 * k + 15 ≤ j) → b.1 40 j = σ.1 40 j) ∧ (∀ j, j ≠ k → b.1 53 j = σ.1 53 j ∧ b.1 54 j = σ.1 54 j) ∧ ((yE T s).1 = 0 → b.1 40 (17 * k + 13) = vPz T 3 0 s ∧ b.1 40 (17 * k + 14) = vPz T 4 0 (yB T s) ∧ (tW T (yC T s) 38 = true → b.1 54 k = 1 ∧ b.1 53 k = vSg T (0, tE T (yC T s).2)) ∧ (¬ tW T (yC T s) 38 = true → b.1 54 k = σ.1 54 k)) := by
  obtain ⟨v1, a1, e1, f1, g1, h1⟩ := s_perhaps (G := G) (d := d) q (x := 3) (c := 3) (lo := 0) (hi := 100) (w := 0) (by decide) rfl (by decide)
  have g2 : RS (aSI a1 40 (17 * k + 13) v1) T (yB T s) := RS.ps (os := [40]) g1 (pSame.rfl'.si (by decide)) (by decide) (by decide)
  obtain ⟨v2, a3, e3, f3, g3, h3⟩ := s_perhaps (G := G) (d := d) g2 (x := 4) (c := 4) (lo := 0) (hi := 601) (w := 0) (by decide) rfl (by decide)
  have g4 : RS (aSI a3 40 (17 * k + 14) v2) T (yC T s) := RS.ps (os := [40]) g3 (pSame.rfl'.si (by decide)) (by decide) (by decide)
  obtain ⟨a5, e5, f5, g5⟩ := s_comesW (G := G) (d := d + 1) g4 (x := 38) (c := 38) (by decide) rfl
  have F5 : rF4 σ a5 := (((f1.f4.si (by decide)).fr f3).si (by decide)).fr f5
  have c5 : ∀ j, a5.1 40 j = if j = 17 * k + 14 then v2 else if j = 17 * k + 13 then v1 else σ.1 40 j := by
    intro j
    rw [f5.1.at (by decide)]
    by_cases e : j = 17 * k + 14
    · rw [if_pos e, e, pSI_at]
    · rw [if_neg e, pSI_of e, f3.1.at (by decide)]
      by_cases e2 : j = 17 * k + 13
      · rw [if_pos e2, e2, pSI_at]
      · rw [if_neg e2, pSI_of e2, f1.1.at (by decide)]
  have d53 : a5.1 53 = σ.1 53 := by rw [f5.1.at (by decide), pSI_ne (by decide), f3.1.at (by decide), pSI_ne (by decide), f1.1.at (by decide)]
  have d54 : a5.1 54 = σ.1 54 := by rw [f5.1.at (by decide), pSI_ne (by decide), f3.1.at (by decide), pSI_ne (by decide), f1.1.at (by decide)]
  have w1 : (yE T s).1 = 0 → v1 = vPz T 3 0 s := fun h => h1 (yE_0 h).2.2.1
  have w2 : (yE T s).1 = 0 → v2 = vPz T 4 0 (yB T s) := fun h => h3 (yE_0 h).2.1
  unfold tlM
  by_cases hc : (yC T s).1 = 0 ∧ tW T (yC T s) 38 = true
  · rw [if_pos hc] at e5
    have g5 : RS a5 T (0, tE T (yC T s).2) := by
      unfold mCo at g5
      rw [if_pos hc] at g5
      exact g5
    have eD : yD T s = mSg T 50 (0, tE T (yC T s).2) := if_pos hc
    obtain ⟨v3, a6, e6, f6, g6, h6⟩ := s_signedR (G := G) (d := d) g5 (most := 50) (by decide)
    rw [← eD] at g6 h6
    have g7 : RS (aSI (aSI a6 53 k v3) 54 k 1) T (yD T s) := RS.ps (os := [53, 54]) g6 ((pSame.rfl'.si (by decide)).si (by decide)) (by decide) (by decide)
    obtain ⟨b, e8, f8, g8⟩ := s_semiR (G := G) (d := d + 2) g7
    refine ⟨b, ?_, (((F5.fr f6).si (by decide)).si (by decide)).fr f8, g8, fun j hj => ?_, fun j hj => ⟨?_, ?_⟩, fun hz => ⟨?_, ?_, fun _ => ⟨?_, ?_⟩, fun e => absurd hc.2 e⟩⟩
    · rw [e1, pCI, aIx17 (c := 13) (y := 13) hk rfl (by decide), e3, pCI, aIx17 (c := 14) (y := 14) hk rfl (by decide), e5, pCI, if_neg (by decide), e6, pCI, pIx hk (by decide), pIx hk (by decide), e8]
    · rw [f8.1.at (by decide), pSI_ne (by decide), pSI_ne (by decide), f6.1.at (by decide), c5, if_neg (by omega), if_neg (by omega)]
    · rw [f8.1.at (by decide), pSI_ne (by decide), pSI_of hj, f6.1.at (by decide), d53]
    · rw [f8.1.at (by decide), pSI_of hj, pSI_ne (by decide), f6.1.at (by decide), d54]
    · rw [f8.1.at (by decide), pSI_ne (by decide), pSI_ne (by decide), f6.1.at (by decide), c5, if_neg (by omega), if_pos rfl, w1 hz]
    · rw [f8.1.at (by decide), pSI_ne (by decide), pSI_ne (by decide), f6.1.at (by decide), c5, if_pos rfl, w2 hz]
    · rw [f8.1.at (by decide), pSI_at]
    · rw [f8.1.at (by decide), pSI_ne (by decide), pSI_at, h6 (yE_0 hz).1]
  · rw [if_neg hc] at e5
    have eD : yD T s = yC T s := if_neg hc
    have g5 : RS a5 T (yD T s) := by
      unfold mCo at g5
      rw [if_neg hc] at g5
      rw [eD]
      exact g5
    obtain ⟨b, e8, f8, g8⟩ := s_semiR (G := G) (d := d + 2) g5
    refine ⟨b, ?_, F5.fr f8, g8, fun j hj => ?_, fun j hj => ⟨?_, ?_⟩, fun hz => ⟨?_, ?_, fun e => absurd ⟨(yE_0 hz).2.1, e⟩ hc, fun _ => ?_⟩⟩
    · rw [e1, pCI, aIx17 (c := 13) (y := 13) hk rfl (by decide), e3, pCI, aIx17 (c := 14) (y := 14) hk rfl (by decide), e5, pCI, if_pos rfl, e8]
    · rw [f8.1.at (by decide), c5, if_neg (by omega), if_neg (by omega)]
    · rw [f8.1.at (by decide), d53]
    · rw [f8.1.at (by decide), d54]
    · rw [f8.1.at (by decide), c5, if_neg (by omega), if_pos rfl, w1 hz]
    · rw [f8.1.at (by decide), c5, if_pos rfl, w2 hz]
    · rw [f8.1.at (by decide), d54]
/-- a row of the reference: all columns -/
def rwN (σ : aH) (k : Nat) (R : Nat → Int32) : Prop := (∀ j, j < 15 → σ.1 40 (17 * k + j) = R j) ∧ σ.1 40 (17 * k + 15) = R 16 ∧ σ.1 40 (17 * k + 16) = R 17 ∧ (σ.1 54 k = 0 ∨ σ.1 54 k = 1) ∧ (if σ.1 54 k = 0 then R 15 = 100 else R 15 = σ.1 53 k ∧ R 15 ≠ 100)
theorem s_tlM0 (q : RS σ T s) (hk : k < 60) : ∃ b, tlM0 G (d + 5) (Int32.ofNat k) σ = oV b ∧ rF4 σ b ∧ RS b T (yE T (yA T s)) ∧ (∀ j, (j < 17 * k + 12 ∨ 17 * k + 15 ≤ j) → b.1 40 j = σ.1 40 j) ∧ (∀ j, j ≠ k → b.1 53 j = σ.1 53 j ∧ b.1 54 j = σ.1 54 j) ∧ ((yE T (yA T s)).1 = 0 → ∀ R, rwM σ k R → σ.1 40 (17 * k + 15) = R 16 → σ.1 40 (17 * k + 16) = R 17 → σ.1 54 k = 0 → R 15 = 100 → (tW T (yC T (yA T s)) 38 = true → tlR T (yA T s) (shR T s R) 15 ≠ 100) → rwN b k (tlR T (yA T s) (shR T s R))) := by
  obtain ⟨a1, e1, f1, g1⟩ := s_comesW (G := G) (d := d + 1) q (x := 2) (c := 2) (by decide) rfl
  unfold tlM0
  -- from the columns as they stand behind shown
  have fin : ∀ (a b : aH), (yE T (yA T s)).1 = 0 → (∀ R, rwM σ k R → ∀ j, j < 13 → a.1 40 (17 * k + j) = shR T s R j) → (∀ j, 17 * k + 15 ≤ j → a.1 40 j = σ.1 40 j) → a.1 54 k = σ.1 54 k → (∀ j, (j < 17 * k + 13 ∨ 17 * k + 15 ≤ j) → b.1 40 j = a.1 40 j) → (b.1 40 (17 * k + 13) = vPz T 3 0 (yA T s) ∧ b.1 40 (17 * k + 14) = vPz T 4 0 (yB T (yA T s)) ∧ (tW T (yC T (yA T s)) 38 = true → b.1 54 k = 1 ∧ b.1 53 k = vSg T (0, tE T (yC T (yA T s)).2)) ∧ (¬ tW T (yC T (yA T s)) 38 = true → b.1 54 k = a.1 54 k)) → ∀ R, rwM σ k R → σ.1 40 (17 * k + 15) = R 16 → σ.1 40 (17 * k + 16) = R 17 → σ.1 54 k = 0 → R 15 = 100 → (tW T (yC T (yA T s)) 38 = true → tlR T (yA T s) (shR T s R) 15 ≠ 100) → rwN b k (tlR T (yA T s) (shR T s R)) := by
    intro a b hz ha1 ha2 ha3 hb1 ⟨hb2, hb3, hb4, hb5⟩ R r1 r2 r3 r4 r5 r6
    have e15 : tlR T (yA T s) (shR T s R) 15 = if tW T (yC T (yA T s)) 38 = true then vSg T (0, tE T (yC T (yA T s)).2) else R 15 := rfl
    refine ⟨fun j hj => ?_, ?_, ?_, ?_, ?_⟩
    · rcases (show j < 13 ∨ j = 13 ∨ j = 14 by omega) with h | rfl | rfl
      · rw [hb1 _ (by omega), ha1 R r1 j h]
        unfold tlR
        rw [if_neg (by omega), if_neg (by omega), if_neg (by omega)]
      · exact hb2
      · exact hb3
    · rw [hb1 _ (by omega), ha2 _ (by omega), r2]
      rfl
    · rw [hb1 _ (by omega), ha2 _ (by omega), r3]
      rfl
    · by_cases hw : tW T (yC T (yA T s)) 38 = true
      · exact Or.inr (hb4 hw).1
      · exact Or.inl (by rw [hb5 hw, ha3, r4])
    · by_cases hw : tW T (yC T (yA T s)) 38 = true
      · have h1 := hb4 hw
        have h2 := r6 hw
        rw [e15, if_pos hw] at h2 ⊢
        rw [h1.1, if_neg (by decide), h1.2]
        exact ⟨rfl, h2⟩
      · rw [hb5 hw, ha3, r4, if_pos rfl, e15, if_neg hw, r5]
  by_cases hc : s.1 = 0 ∧ tW T s 2 = true
  · rw [if_pos hc] at e1
    have g1 : RS a1 T (0, tE T s.2) := by
      unfold mCo at g1
      rw [if_pos hc] at g1
      exact g1
    have eA : yA T s = mSg T 999 (0, tE T s.2) := if_pos hc
    obtain ⟨v2, a2, e2, f2, g2, h2⟩ := s_signedR (G := G) (d := d) g1 (most := 999) (by decide)
    rw [← eA] at g2 h2
    have g3 : RS (aSI a2 40 (17 * k + 12) v2) T (yA T s) := RS.ps (os := [40]) g2 (pSame.rfl'.si (by decide)) (by decide) (by decide)
    obtain ⟨b, e, f, g, o, o2, r⟩ := s_tlM (G := G) (d := d) g3 hk
    refine ⟨b, ?_, ((f1.f4.fr f2).si (by decide)).trans f, g, fun j hj => ?_, fun j hj => ⟨?_, ?_⟩, fun hz => fin (aSI a2 40 (17 * k + 12) v2) b hz (fun R row j hj => ?_) (fun j hj => ?_) ?_ o (r hz)⟩
    · rw [e1, pCI, if_neg (by decide), e2, pCI, aIx17 (c := 12) (y := 12) hk rfl (by decide), e]
    · rw [o j (by omega), pSI_of (by omega), f2.1.at (by decide), f1.1.at (by decide)]
    · rw [(o2 j hj).1, pSI_ne (by decide), f2.1.at (by decide), f1.1.at (by decide)]
    · rw [(o2 j hj).2, pSI_ne (by decide), f2.1.at (by decide), f1.1.at (by decide)]
    · unfold shR
      by_cases e12 : j = 12
      · subst e12
        rw [pSI_at, if_pos rfl, if_pos hc.2, h2 (yE_0 hz).2.2.2]
      · rw [pSI_of (by omega), f2.1.at (by decide), f1.1.at (by decide), if_neg e12, row j (by omega)]
    · rw [pSI_of (by omega), f2.1.at (by decide), f1.1.at (by decide)]
    · rw [pSI_ne (by decide), f2.1.at (by decide), f1.1.at (by decide)]
  · rw [if_neg hc] at e1
    have eA : yA T s = s := if_neg hc
    have g1 : RS a1 T (yA T s) := by
      unfold mCo at g1
      rw [if_neg hc] at g1
      rw [eA]
      exact g1
    obtain ⟨b, e, f, g, o, o2, r⟩ := s_tlM (G := G) (d := d) g1 hk
    refine ⟨b, ?_, f1.f4.trans f, g, fun j hj => ?_, fun j hj => ⟨?_, ?_⟩, fun hz => fin a1 b hz (fun R row j hj => ?_) (fun j hj => ?_) ?_ o (r hz)⟩
    · rw [e1, pCI, if_pos rfl, e]
    · rw [o j (by omega), f1.1.at (by decide)]
    · rw [(o2 j hj).1, f1.1.at (by decide)]
    · rw [(o2 j hj).2, f1.1.at (by decide)]
    · have hs := yA_0 (yE_0 hz).2.2.2
      have nw : ¬ tW T s 2 = true := fun e => hc ⟨hs, e⟩
      rw [f1.1.at (by decide), row j (by omega)]
      unfold shR
      by_cases e12 : j = 12
      · rw [if_pos e12, if_neg nw, e12]
      · rw [if_neg e12]
    · rw [f1.1.at (by decide)]
    · rw [f1.1.at (by decide)]
end PRTail
