/-! ===== fault, count, foretold ===== -/
section PQ3
variable {G : Nat × (Nat → Int32)} {d : Nat} {σ : aH} {m : St}
theorem k_fault (ho : okAll m) : ∃ m', AskD G 110 111 [] m m' := by
  refine ⟨m, ho, m.2.2.2.2.2.1, fun σ a b => ⟨σ, ?_, a, b⟩, fun σ a b => ⟨aSI σ 33 0 0, ?_, a.k (K.rfl'.s33 (by decide)), b.k (K.rfl'.s33 (by decide))⟩⟩
  · rw [e_Rh_fault, a.2.2.2.2.2.1]
  · rw [e_Md_fault, b.2.2.2.2.2.1]
def mCount (m : St) (j : Nat) : Int32 := if j < 5 then Int32.ofNat (hn m.1 j) else if j = 5 then Int32.ofNat m.2.1.1 else if j = 6 then Int32.ofNat (mCl m.1 m.2.1).length else if j = 7 then Int32.ofNat m.2.2.2.1 else m.2.2.2.2.2.2 (j - 8)
theorem a_count (ho : okAll m) (x : Int32) : Ask G 113 129 [.int x] [(0, 1)] m := by
  have hk := ho.1
  rcases rngI (x := x) (n := 11) (by decide) with ⟨j, hj, rfl⟩ | hx
  · refine Or.inl ⟨mCount m j, fun σ I => ?_, fun σ I => ?_⟩
    · by_cases h6 : j = 6
      · subst h6
        obtain ⟨σ1, r1, f1, v1⟩ := s_siftI (G := G) (d := 52) I
        refine cOkS (σ' := σ1) ?_ f1 (by decide)
        rw [e_Rh_count, if_neg (by decide), if_neg (by decide), s_demand1, pXV, if_pos (by decide), if_neg (by decide), if_pos (by decide), r1, pCV, v1.2.2]
        rfl
      · obtain ⟨_, ⟨q, qs, _, q1, _, _, q27⟩, _⟩ := I
        refine ⟨σ, ?_, K.rfl'⟩
        rw [e_Rh_count, if_neg (pN_n0 (by omega)), if_neg (pLB (c := 10) (b := 10) rfl (by omega) (by decide)), s_demand1, pXV]
        by_cases h5 : j < 5
        · rw [if_neg (pLB (c := 4) (b := 4) rfl (by omega) (by decide)), s_howMany (k := j) rfl h5, pCI, q.1 j h5]
          unfold mCount
          rw [if_pos h5]
        · rcases (show j = 5 ∨ j = 7 ∨ j = 8 ∨ j = 9 ∨ j = 10 by omega) with rfl | rfl | rfl | rfl | rfl
          · rw [if_pos (by decide), if_pos (by decide), qs.1]
            rfl
          · rw [if_pos (by decide), if_neg (by decide), if_neg (by decide), if_pos (by decide), q1]
            rfl
          · rw [if_pos (by decide), if_neg (by decide), if_neg (by decide), if_neg (by decide), s_cell (x := Int32.ofNat 8 - 8) (r := 27) (n := 3) (i := 0) rfl rfl (by decide) (by decide), pCI, q27 0 (by decide)]
            rfl
          · rw [if_pos (by decide), if_neg (by decide), if_neg (by decide), if_neg (by decide), s_cell (x := Int32.ofNat 9 - 8) (r := 27) (n := 3) (i := 1) rfl rfl (by decide) (by decide), pCI, q27 1 (by decide)]
            rfl
          · rw [if_pos (by decide), if_neg (by decide), if_neg (by decide), if_neg (by decide), s_cell (x := Int32.ofNat 10 - 8) (r := 27) (n := 3) (i := 2) rfl rfl (by decide) (by decide), pCI, q27 2 (by decide)]
            rfl
    · by_cases h6 : j = 6
      · subst h6
        obtain ⟨σ1, r1, f1, g1, v1⟩ := s_gatherI (G := G) (d := 54) I
        refine rOkS (σ' := σ1) ?_ f1 g1
        rw [e_Md_count, s_within, pCI, if_pos (by decide), s_r1, pCI, if_neg (by decide), if_neg (by decide), if_neg (by decide), if_neg (by decide), if_neg (by decide), if_neg (by decide), if_neg (by decide), if_pos (by decide), r1, pCV, v1.1]
        rfl
      · obtain ⟨_, _, ⟨q, ⟨_, q12⟩, _, q15, _, _, q52⟩⟩ := I
        have z : ∀ k, k ≠ 0 → (aSI σ 33 0 0).1 33 k = σ.1 33 k := fun k hk => pSI_of hk
        refine rOkI ?_
        rw [e_Md_count, s_within, pCI, if_pos ⟨pN_0 (by omega), pLe' (c := 10) (b := 10) rfl (by omega) (by decide)⟩, s_r1, pCI, if_neg (by decide), z 1 (by decide), z 2 (by decide), z 3 (by decide), z 4 (by decide), z 5 (by decide), z 12 (by decide), z 15 (by decide), pSI_ne (by decide)]
        rcases (show j = 0 ∨ j = 1 ∨ j = 2 ∨ j = 3 ∨ j = 4 ∨ j = 5 ∨ j = 7 ∨ j = 8 ∨ j = 9 ∨ j = 10 by omega) with rfl | rfl | rfl | rfl | rfl | rfl | rfl | rfl | rfl | rfl
        · rw [if_pos (by decide)]; exact congrArg (fun x => oI x (aSI σ 33 0 0)) (q.1 0 (by decide))
        · rw [if_neg (by decide), if_pos (by decide)]; exact congrArg (fun x => oI x (aSI σ 33 0 0)) (q.1 1 (by decide))
        · rw [if_neg (by decide), if_neg (by decide), if_pos (by decide)]; exact congrArg (fun x => oI x (aSI σ 33 0 0)) (q.1 2 (by decide))
        · rw [if_neg (by decide), if_neg (by decide), if_neg (by decide), if_pos (by decide)]; exact congrArg (fun x => oI x (aSI σ 33 0 0)) (q.1 3 (by decide))
        · rw [if_neg (by decide), if_neg (by decide), if_neg (by decide), if_neg (by decide), if_pos (by decide)]; exact congrArg (fun x => oI x (aSI σ 33 0 0)) (q.1 4 (by decide))
        · rw [if_neg (by decide), if_neg (by decide), if_neg (by decide), if_neg (by decide), if_neg (by decide), if_pos (by decide)]; exact congrArg (fun x => oI x (aSI σ 33 0 0)) q12
        · rw [if_neg (by decide), if_neg (by decide), if_neg (by decide), if_neg (by decide), if_neg (by decide), if_neg (by decide), if_neg (by decide), if_pos (by decide)]; exact congrArg (fun x => oI x (aSI σ 33 0 0)) q15
        · rw [if_neg (by decide), if_neg (by decide), if_neg (by decide), if_neg (by decide), if_neg (by decide), if_neg (by decide), if_neg (by decide), if_neg (by decide), pIxL (x := Int32.ofNat 8 - 8) (i := 0) rfl (by decide) (by decide)]; exact congrArg (fun x => oI x (aSI σ 33 0 0)) (q52 0 (by decide))
        · rw [if_neg (by decide), if_neg (by decide), if_neg (by decide), if_neg (by decide), if_neg (by decide), if_neg (by decide), if_neg (by decide), if_neg (by decide), pIxL (x := Int32.ofNat 9 - 8) (i := 1) rfl (by decide) (by decide)]; exact congrArg (fun x => oI x (aSI σ 33 0 0)) (q52 1 (by decide))
        · rw [if_neg (by decide), if_neg (by decide), if_neg (by decide), if_neg (by decide), if_neg (by decide), if_neg (by decide), if_neg (by decide), if_neg (by decide), pIxL (x := Int32.ofNat 10 - 8) (i := 2) rfl (by decide) (by decide)]; exact congrArg (fun x => oI x (aSI σ 33 0 0)) (q52 2 (by decide))
  · refine Or.inr ⟨(0, 1), by decide, fun σ I => cExI ?_, fun σ I => rExI (v := 0) ?_⟩
    · rw [e_Rh_count, s_demand0, pXVt]
      by_cases h0 : x < 0
      · rw [if_pos h0]
      · rw [if_neg h0, if_pos (pBad (c := 10) (b := 10) rfl (by decide) (hx.resolve_left h0))]
    · rw [e_Md_count, s_within, pCI, if_neg (pOut (c := 10) (b := 10) rfl (by decide) hx), s_r0 (by decide), pCI, if_pos rfl]
/-- what is foretold: columns -/
theorem s_lineSaid (q : cHo σ m.1) (hk : Hok m.1) {j : Nat} (hj : j < 2147483648) : Rn G (d + 3) 118 [.ref 3, .int (Int32.ofNat j)] σ = oI (if decide (j < hn m.1 3 ∧ hN m.1 j = true) = true then 1 else 0) σ := by
  have h3 := hk.1.2.2.2.1
  rw [e_Rh_House_lineIsSaid, s_hasN (x1 := 3) (k := 3) (n := hn m.1 3) rfl (by decide) (q.1 3 (by decide)) (by omega) (by omega), pCI, pB0]
  by_cases h1 : j < hn m.1 3
  · rw [if_pos h1, s_toldN (i := j) rfl (by omega), pCI, q.2.2.2.2.1 j h1, pB1, pOI]
    simp only [h1, true_and, decide_eq_true_eq]
  · rw [if_neg h1, if_neg (fun h2 => h1 (of_decide_eq_true h2).1)]
/-- a column: of a line, or one of the last ones -/
def isCol (h : Ho) (x : Int32) (n c : Nat) : Prop := (c < hn h 3 ∧ x = Int32.ofNat c) ∨ ∃ k, k < n ∧ c = 12 + k ∧ x = Int32.ofNat (20 + k)
theorem colI {h : Ho} (hk : Hok h) (x : Int32) (n : Nat) (hn10 : n < 10) : (∃ c, isCol h x n c) ∨ ((x < 0 ∨ Int32.ofNat (hn h 3) ≤ x) ∧ (x < 20 ∨ Int32.ofNat (20 + n) ≤ x)) := by
  have h3 := hk.1.2.2.2.1
  rcases rngI (x := x) (n := hn h 3) (by omega) with ⟨j, hj, e⟩ | hx
  · exact Or.inl ⟨j, Or.inl ⟨hj, e⟩⟩
  · by_cases h20 : x < 20
    · exact Or.inr ⟨hx, Or.inl h20⟩
    · by_cases hb : Int32.ofNat (20 + n) ≤ x
      · exact Or.inr ⟨hx, Or.inr hb⟩
      · have t1 := pNotLt.mp h20
        have t2 : (20 : Int) ≤ x.toInt := pLe.mp t1
        obtain ⟨w, hw, e⟩ := pN_ex2 (x := x) (b := 20 + n) (by omega) (pLe.mpr (by show (0 : Int) ≤ _; omega)) (pNotLe.mp hb)
        have t3 : x.toInt = (w : Int) := by rw [e]; exact pN_int (by omega)
        exact Or.inl ⟨12 + (w - 20), Or.inr ⟨w - 20, by omega, rfl, by rw [e, show 20 + (w - 20) = w by omega]⟩⟩
theorem s_columnOf (q : cHo σ m.1) (hk : Hok m.1) {x l : Int32} {n c : Nat} (hn10 : n < 10) (hl : l = Int32.ofNat (19 + n)) (h : isCol m.1 x n c) : Rn G (d + 3) 184 [.ref 0, .int x, .int l] σ = oI (Int32.ofNat c) σ := by
  have h3 := hk.1.2.2.2.1
  rw [e_Rh_columnOf]
  rcases h with ⟨hc, rfl⟩ | ⟨k, hk2, rfl, rfl⟩
  · rw [s_hasN (x1 := 3) (k := 3) rfl (by decide) (q.1 3 (by decide)) (by omega) (by omega), pCI, pB0, if_pos hc]
  · rw [s_hasN (x1 := 3) (k := 3) rfl (by decide) (q.1 3 (by decide)) (by omega) (by omega), pCI, pB0, if_neg (by omega), if_neg (fun h : Int32.ofNat (20 + k) < 20 => absurd ((pN_lt (b := 20) (by omega) (by decide)).mp h) (by omega)), hl, if_neg (fun h => absurd ((pN_lt (by omega) (by omega)).mp h) (by omega)), show Int32.ofNat (20 + k) - 20 = Int32.ofNat k by
      rw [show 20 + k = k + 20 by omega, ← pA20, Int32.add_sub_cancel], pA12, show k + 12 = 12 + k by omega]
theorem s_columnNo (q : cHo σ m.1) (hk : Hok m.1) {x l : Int32} {n : Nat} (hn10 : n < 10) (hl : l = Int32.ofNat (19 + n)) (h : (x < 0 ∨ Int32.ofNat (hn m.1 3) ≤ x) ∧ (x < 20 ∨ Int32.ofNat (20 + n) ≤ x)) : Rn G (d + 3) 184 [.ref 0, .int x, .int l] σ = oI (-1) σ := by
  have h3 := hk.1.2.2.2.1
  rw [e_Rh_columnOf, s_hasO (x1 := 3) (k := 3) rfl (by decide) (q.1 3 (by decide)) h.1, pCI, if_pos rfl]
  by_cases h0 : x < 20
  · rw [if_pos h0]
  · rw [if_neg h0, if_pos (pBad (b := 19 + n) hl (by omega) (by rw [show 19 + n + 1 = 20 + n by omega]; exact h.2.resolve_left h0))]
theorem s_tellsBy (q : rHo σ m.1) (hk : Hok m.1) {H : Nat → Int32} {l : Nat} (hl : l < 6) (g : pHm σ l H) (hr : pHr H) {x : Int32} {c : Nat} (h : isCol m.1 x 3 c) : Rn G (d + 6) 189 [.ref 33, .int (Int32.ofNat l), .int x] σ = oI (pTell H c (decide (c < hn m.1 3 ∧ hN m.1 c = true))) σ := by
  have h3 := hk.1.2.2.2.1
  rw [e_Md_tellsBy]
  rcases h with ⟨hc, rfl⟩ | ⟨k, hk2, rfl, rfl⟩
  · rw [if_neg (pGoL (c := 12) (n := 12) rfl (by omega) (by decide)), pIx (by omega) (by decide), q.2.2.2.2.1 c hc, pB0, s_feltBy hl g hr, pCI, g.1 4 (by decide)]
    unfold pTell
    rw [if_neg (show ¬ c = 12 by omega), if_neg (show ¬ c = 13 by omega), if_neg (show ¬ c = 14 by omega)]
    by_cases hs : hN m.1 c = true
    · rw [if_pos hs, if_pos (decide_eq_true ⟨hc, hs⟩)]
    · rw [if_neg hs, if_neg (fun h => hs (of_decide_eq_true h).2)]
  · rcases (show k = 0 ∨ k = 1 ∨ k = 2 by omega) with rfl | rfl | rfl
    · rw [if_pos (by decide), if_pos (by decide), s_driftBy hl g hr, pCI]
      rfl
    · rw [if_pos (by decide), if_neg (by decide), if_pos (by decide), s_heldBy hl g hr, pCI, pStart_eq (pHeld_bd hr)]
      rfl
    · rw [if_pos (by decide), if_neg (by decide), if_neg (by decide), s_slowBy hl g hr, pCI]
      rfl
theorem a_foretold (ho : okAll m) (x y z w : Int32) : Ask G 183 188 [.int x, .int y, .int z, .int w] [(0, 1)] m := by
  have hk := ho.1
  have h3 := hk.1.2.2.2.1
  by_cases a : ∃ l p s, are m.1 x y z l p s
  · obtain ⟨l, p, s, a⟩ := a
    have hr := pHr_are hk a
    have hl : l < 6 := by have := hk.1.2.2.1; have := a.1; omega
    have ex : x = Int32.ofNat l := a.2.2.2.1
    rcases colI hk w 3 (by decide) with ⟨c, hc⟩ | hw
    · have hc15 : c < 15 := by
        rcases hc with ⟨h1, _⟩ | ⟨k, h1, h2, _⟩ <;> omega
      refine Or.inl ⟨pTell (mkH (hP m.1) (hS m.1) (hL m.1) p s l) c (decide (c < hn m.1 3 ∧ hN m.1 c = true)), fun σ I => ?_, fun σ I => ?_⟩
      · obtain ⟨_, ⟨q, _⟩, _⟩ := I
        obtain ⟨σ1, r1, f1, g1⟩ := s_takeC (G := G) (d := 55) q hk a
        have g2 : pHc (aSI σ1 24 16 (pHeld (mkH (hP m.1) (hS m.1) (hL m.1) p s l))) (mkH (hP m.1) (hS m.1) (hL m.1) p s l) := fun k hk => (pSI_of (by omega)).trans (g1 k hk)
        have f2 : pSame [24] σ (aSI σ1 24 16 (pHeld (mkH (hP m.1) (hS m.1) (hL m.1) p s l))) := f1.si (by decide)
        refine cOkS (os := [24]) ?_ f2 (by decide)
        rw [e_Rh_foretold, s_demandAllOk q hk a, pXV, s_columnOf (l := 22) (n := 3) q hk (by decide) rfl hc, pCI, if_neg (pN_n0 (by omega)), s_demand1, pXV, r1, pCV, s_settle g1 hr, pCV, s_lineSaid (q.ps f2 (by decide) (by decide) (by decide)) hk (by omega), pCI, s_foretells g2 hr pSI_at rfl hc15 rfl, pCI]
      · obtain ⟨_, _, ⟨q, _⟩⟩ := I
        obtain ⟨σ1, r1, f1, g0, g1⟩ := s_isHeadOk (G := G) (d := 57) q hk a
        have q1 := q.rs f1
        have e4 : σ1.1 33 4 = Int32.ofNat (hn m.1 3) := q1.1 3 (by decide)
        refine rOkS (σ' := σ1) ?_ f1 g0
        rw [e_Md_foretold, r1, pCI, if_neg (by decide), e4, ex]
        rcases id hc with ⟨h1, rfl⟩ | ⟨k, h1, rfl, rfl⟩
        · rw [if_neg (pN_n0 (by omega)), if_pos (pGo' h1 (by omega)), s_right1 g0, pCI, if_neg (by decide), s_tellsBy q1 hk hl g1 hr hc, pCI]
        · rw [if_neg (pN_n0 (by omega)), if_neg (fun h => absurd ((pN_lt (by omega) (by omega)).mp h) (by omega)), s_within, pCI, pB0, if_pos ⟨show (20 : Int32) ≤ Int32.ofNat (20 + k) from (pN_le (a := 20) (by decide) (by omega)).mpr (by omega), pLe' (c := 22) (b := 22) rfl (by omega) (by decide)⟩, s_right1 g0, pCI, if_neg (by decide), s_tellsBy q1 hk hl g1 hr hc, pCI]
    · refine Or.inr ⟨(0, 1), by decide, fun σ I => cExI ?_, fun σ I => ?_⟩
      · obtain ⟨_, ⟨q, _⟩, _⟩ := I
        rw [e_Rh_foretold, s_demandAllOk q hk a, pXV, s_columnNo (l := 22) (n := 3) q hk (by decide) rfl hw, pCI, if_pos (by decide), s_demand0, pXVt]
      · obtain ⟨_, _, ⟨q, _⟩⟩ := I
        obtain ⟨σ1, r1, f1, g0, g1⟩ := s_isHeadOk (G := G) (d := 57) q hk a
        have e4 : σ1.1 33 4 = Int32.ofNat (hn m.1 3) := (q.rs f1).1 3 (by decide)
        have nw : ¬ ((20 : Int32) ≤ w ∧ w ≤ 22) := by
          intro h
          rcases hw.2 with h1 | h1
          · exact absurd h1 (pNotLt.mpr h.1)
          · exact absurd (pBad (c := 22) (b := 22) rfl (by decide) h1) (pNotLt.mpr h.2)
        refine rExS (v := 0) (σ' := aSI σ1 33 0 1) ?_ (f1.s33 (by decide)) pSI_at
        rw [e_Md_foretold, r1, pCI, if_neg (by decide), e4, s_within, pCI, pB0, if_neg nw, s_right0 g0 (by decide), pCI, if_pos rfl]
        by_cases h0 : w < 0
        · rw [if_pos h0]
        · rw [if_neg h0, if_neg (pNotLt.mpr (hw.1.resolve_left h0))]
  · refine Or.inr ⟨(0, 1), by decide, fun σ I => cExI ?_, fun σ I => rExI (v := 0) ?_⟩
    · obtain ⟨_, ⟨q, _⟩, _⟩ := I
      rw [e_Rh_foretold, s_demandAllNo q hk a, pXVt]
    · obtain ⟨_, _, ⟨q, _⟩⟩ := I
      rw [e_Md_foretold, s_isHeadNo q hk a, pCI, if_pos rfl]
end PQ3
