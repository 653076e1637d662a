/-! ===== questions, one by one ===== -/
theorem rngI {x : Int32} {n : Nat} (hn : n < 2147483648) : (∃ j, j < n ∧ x = Int32.ofNat j) ∨ (x < 0 ∨ Int32.ofNat n ≤ x) := by
  by_cases h : x < 0
  · exact Or.inr (Or.inl h)
  · by_cases h2 : Int32.ofNat n ≤ x
    · exact Or.inr (Or.inr h2)
    · exact Or.inl (pN_ex2 hn (pNotLt.mp h) (pNotLe.mp h2))
theorem pLB {c : Int32} {b w : Nat} (hc : c = Int32.ofNat b) (h : w ≤ b) (hb : b < 2147483648) : ¬ c < Int32.ofNat w := by
  rw [hc]
  exact fun h1 => absurd ((pN_lt hb (by omega)).mp h1) (by omega)
theorem pLe' {c : Int32} {b w : Nat} (hc : c = Int32.ofNat b) (h : w ≤ b) (hb : b < 2147483648) : Int32.ofNat w ≤ c := by
  rw [hc]
  exact (pN_le (by omega) hb).mpr h
theorem pBad {c y : Int32} {b : Nat} (hc : c = Int32.ofNat b) (hb : b < 2147483647) (h : Int32.ofNat (b + 1) ≤ y) : c < y := by
  rw [hc]
  rw [pLe, pN_int (by omega)] at h
  rw [pLt, pN_int (by omega)]
  omega
theorem pOut {c y : Int32} {b : Nat} (hc : c = Int32.ofNat b) (hb : b < 2147483647) (h : y < 0 ∨ Int32.ofNat (b + 1) ≤ y) : ¬ (0 ≤ y ∧ y ≤ c) := by
  intro h1
  rcases h with h | h
  · exact absurd h (pNotLt.mpr h1.1)
  · exact absurd (pBad hc hb h) (pNotLt.mpr h1.2)
section PAsk
variable {G : Nat × (Nat → Int32)} {d : Nat} {σ : aH} {m : St}
theorem pSI_over {a j : Nat} {x y : Int32} : aSI (aSI σ a j x) a j y = aSI σ a j y := by
  refine Prod.ext ?_ rfl
  funext o
  by_cases h : o = a
  · subst h
    rw [pSI_eq, pSI_eq, pSI_eq]
    funext k
    by_cases h2 : k = j
    · simp [upd, h2]
    · simp [upd, h2]
  · rw [pSI_ne h, pSI_ne h, pSI_ne h]
theorem s_r1 {w : Int32} : Rn G (d + 1) 62 [.ref 33, .int 1, .int w] (aSI σ 33 0 0) = oI 1 (aSI σ 33 0 0) := s_right1 pSI_at
theorem s_r0 {w : Int32} (hw : w ≠ 0) : Rn G (d + 1) 62 [.ref 33, .int 0, .int w] (aSI σ 33 0 0) = oI 0 (aSI σ 33 0 w) := by
  rw [s_right0 pSI_at hw, pSI_over]
theorem s_hasO {x1 x2 : Int32} {k n : Nat} (hx : x1 = Int32.ofNat k) (hk : k < 5) (hn : σ.1 4 k = Int32.ofNat n) (h : x2 < 0 ∨ Int32.ofNat n ≤ x2) : Rn G (d + 2) 103 [.ref 3, .int x1, .int x2] σ = oI 0 σ := by
  rw [s_has hx hk hn, if_neg]
  intro h1
  rcases h with h | h
  · exact absurd h (pNotLt.mpr h1.1)
  · exact absurd h1.2 (pNotLt.mpr h)
/-- refusals -/
theorem cExI {G : Nat × (Nat → Int32)} {mid : Nat} {as : List Value} {σ : aH} {e : Nat} (h : Rn G 60 mid as σ = oX e σ) : cEx G mid as σ e := ⟨σ, h, K.rfl'⟩
theorem rExI {G : Nat × (Nat → Int32)} {mid : Nat} {as : List Value} {σ : aH} {t v : Int32} (h : Rn G 60 mid as σ = oI v (aSI σ 33 0 t)) : rEx G mid as σ t := ⟨v, _, h, K.rfl'.s33 (by decide), pSI_at, rfl⟩
theorem rOkI {G : Nat × (Nat → Int32)} {mid : Nat} {as : List Value} {σ : aH} {v : Int32} (h : Rn G 60 mid as σ = oI v (aSI σ 33 0 0)) : rOk G mid as σ v := ⟨_, h, K.rfl'.s33 (by decide), pSI_at, rfl⟩
theorem a_sitting (ho : okAll m) (x y : Int32) : Ask G 142 143 [.int x, .int y] [(0, 1)] m := by
  have hk := ho.1
  have h20 := hk.1.2.1
  rcases rngI (x := x) (n := hn m.1 1) (by omega) with ⟨j, hj, rfl⟩ | hx
  · rcases rngI (x := y) (n := 6) (by decide) with ⟨w, hw, rfl⟩ | hy
    · refine Or.inl ⟨hS m.1 (6 * j + w), fun σ I => ⟨σ, ?_, K.rfl'⟩, fun σ I => rOkI ?_⟩
      · obtain ⟨_, ⟨q, _⟩, _⟩ := I
        rw [e_Rh_sitting, s_hasN (x1 := 1) (k := 1) rfl (by decide) (q.1 1 (by decide)) (by omega) (by omega), pCI, pB0, if_pos hj, if_neg (pN_n0 (by omega)), if_neg (pLB (c := 5) (b := 5) rfl (by omega) (by decide)), s_demand1, pXV, s_toldS rfl rfl (by omega) hw, pCI, q.2.2.1 j hj w hw]
      · obtain ⟨_, _, ⟨q, _⟩⟩ := I
        have e2 : σ.1 33 2 = Int32.ofNat (hn m.1 1) := q.1 1 (by decide)
        rw [e_Md_sitting, if_neg (pN_n0 (by omega)), e2, if_neg (pGo hj (by omega)), s_within, pCI, pB0, if_pos ⟨pN_0 (by omega), pLe' (c := 5) (b := 5) rfl (by omega) (by decide)⟩, s_r1, pCI, if_neg (by decide), pM6, pA, pIx (by omega) (by decide), pSI_ne (by decide), q.2.2.1 j hj w hw]
    · refine Or.inr ⟨(0, 1), by decide, fun σ I => cExI ?_, fun σ I => rExI (v := 0) ?_⟩
      · obtain ⟨_, ⟨q, _⟩, _⟩ := I
        rw [e_Rh_sitting, s_hasN (x1 := 1) (k := 1) rfl (by decide) (q.1 1 (by decide)) (by omega) (by omega), pCI, pB0, if_pos hj]
        by_cases h0 : y < 0
        · rw [if_pos h0, s_demand0, pXVt]
        · rw [if_neg h0, if_pos (pBad (c := 5) (b := 5) rfl (by decide) (hy.resolve_left h0)), s_demand0, pXVt]
      · obtain ⟨_, _, ⟨q, _⟩⟩ := I
        have e2 : σ.1 33 2 = Int32.ofNat (hn m.1 1) := q.1 1 (by decide)
        rw [e_Md_sitting, if_neg (pN_n0 (by omega)), e2, if_neg (pGo hj (by omega)), s_within, pCI, pB0, if_neg (pOut (c := 5) (b := 5) rfl (by decide) hy), s_r0 (by decide), pCI, if_pos rfl]
  · refine Or.inr ⟨(0, 1), by decide, fun σ I => cExI ?_, fun σ I => rExI (v := 0) ?_⟩
    · obtain ⟨_, ⟨q, _⟩, _⟩ := I
      rw [e_Rh_sitting, s_hasO (x1 := 1) (k := 1) rfl (by decide) (q.1 1 (by decide)) hx, pCI, if_pos rfl, s_demand0, pXVt]
    · obtain ⟨_, _, ⟨q, _⟩⟩ := I
      have e2 : σ.1 33 2 = Int32.ofNat (hn m.1 1) := q.1 1 (by decide)
      rw [e_Md_sitting, e2, s_r0 (by decide), pCI, if_pos rfl]
      by_cases h0 : x < 0
      · rw [if_pos h0]
      · rw [if_neg h0, if_pos (hx.resolve_left h0)]
theorem a_law (ho : okAll m) (x y : Int32) : Ask G 145 146 [.int x, .int y] [(0, 1)] m := by
  have hk := ho.1
  have h20 := hk.1.2.2.1
  rcases rngI (x := x) (n := hn m.1 2) (by omega) with ⟨j, hj, rfl⟩ | hx
  · rcases rngI (x := y) (n := 5) (by decide) with ⟨w, hw, rfl⟩ | hy
    · refine Or.inl ⟨hL m.1 (5 * j + w), fun σ I => ⟨σ, ?_, K.rfl'⟩, fun σ I => rOkI ?_⟩
      · obtain ⟨_, ⟨q, _⟩, _⟩ := I
        rw [e_Rh_law, s_hasN (x1 := 2) (k := 2) rfl (by decide) (q.1 2 (by decide)) (by omega) (by omega), pCI, pB0, if_pos hj, if_neg (pN_n0 (by omega)), if_neg (pLB (c := 4) (b := 4) rfl (by omega) (by decide)), s_demand1, pXV, s_toldL rfl rfl (by omega) hw, pCI, q.2.2.2.1 j hj w hw]
      · obtain ⟨_, _, ⟨q, _⟩⟩ := I
        have e2 : σ.1 33 3 = Int32.ofNat (hn m.1 2) := q.1 2 (by decide)
        rw [e_Md_law, if_neg (pN_n0 (by omega)), e2, if_neg (pGo hj (by omega)), s_within, pCI, pB0, if_pos ⟨pN_0 (by omega), pLe' (c := 4) (b := 4) rfl (by omega) (by decide)⟩, s_r1, pCI, if_neg (by decide), pM5, pA, pIx (by omega) (by decide), pSI_ne (by decide), q.2.2.2.1 j hj w hw]
    · refine Or.inr ⟨(0, 1), by decide, fun σ I => cExI ?_, fun σ I => rExI (v := 0) ?_⟩
      · obtain ⟨_, ⟨q, _⟩, _⟩ := I
        rw [e_Rh_law, s_hasN (x1 := 2) (k := 2) rfl (by decide) (q.1 2 (by decide)) (by omega) (by omega), pCI, pB0, if_pos hj]
        by_cases h0 : y < 0
        · rw [if_pos h0, s_demand0, pXVt]
        · rw [if_neg h0, if_pos (pBad (c := 4) (b := 4) rfl (by decide) (hy.resolve_left h0)), s_demand0, pXVt]
      · obtain ⟨_, _, ⟨q, _⟩⟩ := I
        have e2 : σ.1 33 3 = Int32.ofNat (hn m.1 2) := q.1 2 (by decide)
        rw [e_Md_law, if_neg (pN_n0 (by omega)), e2, if_neg (pGo hj (by omega)), s_within, pCI, pB0, if_neg (pOut (c := 4) (b := 4) rfl (by decide) hy), s_r0 (by decide), pCI, if_pos rfl]
  · refine Or.inr ⟨(0, 1), by decide, fun σ I => cExI ?_, fun σ I => rExI (v := 0) ?_⟩
    · obtain ⟨_, ⟨q, _⟩, _⟩ := I
      rw [e_Rh_law, s_hasO (x1 := 2) (k := 2) rfl (by decide) (q.1 2 (by decide)) hx, pCI, if_pos rfl, s_demand0, pXVt]
    · obtain ⟨_, _, ⟨q, _⟩⟩ := I
      have e2 : σ.1 33 3 = Int32.ofNat (hn m.1 2) := q.1 2 (by decide)
      rw [e_Md_law, e2, s_r0 (by decide), pCI, if_pos rfl]
      by_cases h0 : x < 0
      · rw [if_pos h0]
      · rw [if_neg h0, if_pos (hx.resolve_left h0)]
end PAsk
