/-! ===== weight, isSaid, person, count ===== -/
section PQ2
variable {G : Nat × (Nat → Int32)} {d : Nat} {σ : aH} {m : St}
theorem pBdI {x a b : Int32} : (a ≤ x ∧ x ≤ b) ∨ x < a ∨ b < x := by
  by_cases h : x < a
  · exact Or.inr (Or.inl h)
  · by_cases h2 : b < x
    · exact Or.inr (Or.inr h2)
    · exact Or.inl ⟨pNotLt.mp h, pNotLt.mp h2⟩
theorem a_weight (x y : Int32) : Ask G 151 153 [.int x, .int y] [(1, 1)] m := by
  rcases pBdI (x := y) (a := 1) (b := 9999) with hy | hy
  · rcases pBdI (x := x) (a := -9999) (b := 9999) with hx | hx
    · refine Or.inl ⟨pWgt x y, fun σ I => ⟨σ, ?_, K.rfl'⟩, fun σ I => rOkI ?_⟩
      · rw [e_Rh_weight, if_neg (pNotLt.mpr hy.1), if_neg (pNotLt.mpr hy.2), if_neg (pNotLt.mpr hx.1), if_neg (pNotLt.mpr hx.2), s_allow1, pXV, s_wgtC, pCI]
      · have y1 : (1 : Int) ≤ y.toInt := pLe.mp hy.1
        have y2 : y.toInt ≤ (9999 : Int) := pLe.mp hy.2
        have x1 : (-9999 : Int) ≤ x.toInt := pLe.mp hx.1
        have x2 : x.toInt ≤ (9999 : Int) := pLe.mp hx.2
        rw [e_Md_weight, s_within, pCI, pB0, if_pos hy, s_within, pCI, pB0, if_pos hx, s_r1, pCI, if_neg (by decide), s_wgtM (pW_ne y1 y2 x1 x2), pCI]
    · refine Or.inr ⟨(1, 1), by decide, fun σ I => cExI ?_, fun σ I => rExI (v := 0) ?_⟩
      · rw [e_Rh_weight, if_neg (pNotLt.mpr hy.1), if_neg (pNotLt.mpr hy.2), s_allow0, pXVt]
        by_cases h0 : x < -9999
        · rw [if_pos h0]
        · rw [if_neg h0, if_pos (hx.resolve_left h0)]
      · rw [e_Md_weight, s_within, pCI, pB0, if_pos hy, s_within, pCI, pB0, if_neg (fun h => hx.elim (fun h1 => absurd h1 (pNotLt.mpr h.1)) (fun h1 => absurd h1 (pNotLt.mpr h.2))), s_r0 (by decide), pCI, if_pos rfl]
  · refine Or.inr ⟨(1, 1), by decide, fun σ I => cExI ?_, fun σ I => rExI (v := 0) ?_⟩
    · rw [e_Rh_weight, s_allow0, pXVt]
      by_cases h0 : y < 1
      · rw [if_pos h0]
      · rw [if_neg h0, if_pos (hy.resolve_left h0)]
    · rw [e_Md_weight, s_within, pCI, pB0, if_neg (fun h => hy.elim (fun h1 => absurd h1 (pNotLt.mpr h.1)) (fun h1 => absurd h1 (pNotLt.mpr h.2))), s_r0 (by decide), pCI, if_pos rfl]
theorem a_isSaid (ho : okAll m) (x : Int32) : Ask G 148 149 [.int x] [(0, 1)] m := by
  have hk := ho.1
  have h12 := hk.1.2.2.2.1
  rcases rngI (x := x) (n := hn m.1 3) (by omega) with ⟨j, hj, rfl⟩ | hx
  · refine Or.inl ⟨if hN m.1 j = true then 1 else 0, fun σ I => ⟨σ, ?_, K.rfl'⟩, fun σ I => rOkI ?_⟩
    · obtain ⟨_, ⟨q, _⟩, _⟩ := I
      rw [e_Rh_isSaid, s_hasN (x1 := 3) (k := 3) rfl (by decide) (q.1 3 (by decide)) (by omega) (by omega), pCI, if_pos hj, s_demand1, pXV, s_lineIsSaid q hk (by omega), pCI]
      cases hN m.1 j
      · rw [if_neg (fun h => absurd h.2 (by decide)), if_neg (by decide)]
        rfl
      · rw [if_pos ⟨hj, rfl⟩, if_pos rfl]
        rfl
    · obtain ⟨_, _, ⟨q, _⟩⟩ := I
      have e4 : σ.1 33 4 = Int32.ofNat (hn m.1 3) := q.1 3 (by decide)
      rw [e_Md_isSaid, if_neg (pN_n0 (by omega)), e4, if_neg (pGo hj (by omega)), s_r1, pCI, if_neg (by decide), pIx (by omega) (by decide), pSI_ne (by decide), q.2.2.2.2.1 j hj, pB0, pOI]
  · refine Or.inr ⟨(0, 1), by decide, fun σ I => cExI ?_, fun σ I => rExI (v := 0) ?_⟩
    · obtain ⟨_, ⟨q, _⟩, _⟩ := I
      rw [e_Rh_isSaid, s_hasO (x1 := 3) (k := 3) rfl (by decide) (q.1 3 (by decide)) hx, pCI, s_demand0, pXVt]
    · obtain ⟨_, _, ⟨q, _⟩⟩ := I
      have e4 : σ.1 33 4 = Int32.ofNat (hn m.1 3) := q.1 3 (by decide)
      rw [e_Md_isSaid, e4, s_r0 (by decide), pCI, if_pos rfl]
      by_cases h0 : x < 0
      · rw [if_pos h0]
      · rw [if_neg h0, if_pos (hx.resolve_left h0)]
/-- sift, and gather, from what is kept -/
theorem s_siftI (I : Iv σ m) : ∃ σ', Rn G (d + 7) 115 [.ref 17, .ref 3, .ref 13] σ = oV σ' ∧ pSame [17, 18, 19, 20, 21, 22, 23] σ σ' ∧ cSv σ' m.1 m.2.1 := s_sift I.2.1.1 I.1.1 I.2.1.2.1 I.1.2.1
theorem s_gatherI (I : Iv σ m) : ∃ σ', Rn G (d + 5) 131 [.ref 33] (aSI σ 33 0 0) = oV σ' ∧ rS σ σ' ∧ σ'.1 33 0 = 0 ∧ rG σ' (mCl m.1 m.2.1) := by
  have I' := I.k (K.rfl'.s33 (j := 0) (x := 0) (by decide))
  obtain ⟨σ1, r1, f1, g1, g2⟩ := s_gathers (G := G) (d := d) I'.2.2.1 I'.1.1 I'.2.2.2.1.1 I'.1.2.1 I'.2.2.2.1.2
  exact ⟨σ1, r1, (rS.rfl'.s33 (by decide)).trans f1, g1.trans pSI_at, g2⟩
theorem a_person (ho : okAll m) (x y : Int32) : Ask G 139 140 [.int x, .int y] [(0, 1)] m := by
  have hk := ho.1
  have h20 := hk.1.1
  rcases rngI (x := x) (n := hn m.1 0) (by omega) with ⟨j, hj, rfl⟩ | hx
  · rcases rngI (x := y) (n := 7) (by decide) with ⟨w, hw, rfl⟩ | hy
    · by_cases h6 : w = 6
      · subst h6
        refine Or.inl ⟨if 0 < mYes m.1 m.2.1 j then 1 else 0, fun σ I => ?_, fun σ I => rOkI ?_⟩
        · obtain ⟨σ1, r1, f1, v1⟩ := s_siftI (G := G) (d := 52) I
          obtain ⟨_, ⟨q, _⟩, _⟩ := I
          refine cOkS (σ' := σ1) ?_ f1 (by decide)
          rw [e_Rh_person, s_hasN (x1 := 0) (k := 0) rfl (by decide) (q.1 0 (by decide)) (by omega) (by omega), pCI, pB0, if_pos hj, if_neg (by decide), if_neg (by decide), s_demand1, pXV, if_pos (by decide), r1, pCV, s_saysYesC v1 (by omega), pCI, pB0, pOI]
        · have I' := I.k (K.rfl'.s33 (j := 0) (x := 0) (by decide))
          obtain ⟨_, _, ⟨q, ⟨qs, e12⟩, _⟩⟩ := I'
          have e2 : σ.1 33 1 = Int32.ofNat (hn m.1 0) := (pSI_of (by decide)).symm.trans (q.1 0 (by decide))
          rw [e_Md_person, if_neg (pN_n0 (by omega)), e2, if_neg (pGo hj (by omega)), s_within, pCI, pB0, if_pos (by decide), s_r1, pCI, if_neg (by decide), if_pos (by decide), s_saysYesM q hk qs ho.2.1 e12, pCI, pB0, pOI]
      · refine Or.inl ⟨hP m.1 (6 * j + w), fun σ I => ⟨σ, ?_, K.rfl'⟩, fun σ I => rOkI ?_⟩
        · obtain ⟨_, ⟨q, _⟩, _⟩ := I
          rw [e_Rh_person, s_hasN (x1 := 0) (k := 0) rfl (by decide) (q.1 0 (by decide)) (by omega) (by omega), pCI, pB0, if_pos hj, if_neg (pN_n0 (by omega)), if_neg (pLB (c := 6) (b := 6) rfl (by omega) (by decide)), s_demand1, pXV, if_neg (fun h => h6 ((pEqL (c := 6) rfl (by decide) (by omega)).mp h)), s_toldP rfl rfl (by omega) (by omega), pCI, q.2.1 j hj w (by omega)]
        · obtain ⟨_, _, ⟨q, _⟩⟩ := I
          have e2 : σ.1 33 1 = Int32.ofNat (hn m.1 0) := q.1 0 (by decide)
          rw [e_Md_person, if_neg (pN_n0 (by omega)), e2, if_neg (pGo hj (by omega)), s_within, pCI, pB0, if_pos ⟨pN_0 (by omega), pLe' (c := 6) (b := 6) rfl (by omega) (by decide)⟩, s_r1, pCI, if_neg (by decide), if_neg (pGoL (c := 6) (n := 6) rfl (by omega) (by decide)), pM6, pA, pIx (by omega) (by decide), pSI_ne (by decide), q.2.1 j hj w (by omega)]
    · refine Or.inr ⟨(0, 1), by decide, fun σ I => cExI ?_, fun σ I => rExI (v := 0) ?_⟩
      · obtain ⟨_, ⟨q, _⟩, _⟩ := I
        rw [e_Rh_person, s_hasN (x1 := 0) (k := 0) rfl (by decide) (q.1 0 (by decide)) (by omega) (by omega), pCI, pB0, if_pos hj]
        by_cases h0 : y < 0
        · rw [if_pos h0, s_demand0, pXVt]
        · rw [if_neg h0, if_pos (pBad (c := 6) (b := 6) rfl (by decide) (hy.resolve_left h0)), s_demand0, pXVt]
      · obtain ⟨_, _, ⟨q, _⟩⟩ := I
        have e2 : σ.1 33 1 = Int32.ofNat (hn m.1 0) := q.1 0 (by decide)
        rw [e_Md_person, if_neg (pN_n0 (by omega)), e2, if_neg (pGo hj (by omega)), s_within, pCI, pB0, if_neg (pOut (c := 6) (b := 6) rfl (by decide) hy), s_r0 (by decide), pCI, if_pos rfl]
  · refine Or.inr ⟨(0, 1), by decide, fun σ I => cExI ?_, fun σ I => rExI (v := 0) ?_⟩
    · obtain ⟨_, ⟨q, _⟩, _⟩ := I
      rw [e_Rh_person, s_hasO (x1 := 0) (k := 0) rfl (by decide) (q.1 0 (by decide)) hx, pCI, if_pos rfl, s_demand0, pXVt]
    · obtain ⟨_, _, ⟨q, _⟩⟩ := I
      have e2 : σ.1 33 1 = Int32.ofNat (hn m.1 0) := q.1 0 (by decide)
      rw [e_Md_person, e2, s_r0 (by decide), pCI, if_pos rfl]
      by_cases h0 : x < 0
      · rw [if_pos h0]
      · rw [if_neg h0, if_pos (hx.resolve_left h0)]
end PQ2
