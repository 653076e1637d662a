/-! ===== value ===== -/
section PValue
variable {G : Nat × (Nat → Int32)} {d : Nat} {σ : aH} {m : St}
theorem s_placeOf {h : Ho} (hk : Hok h) {y : Int32} {c : Nat} (hc : isCol h y 4 c) (h15 : c ≠ 15) : ¬ y = 23 ∧ ¬ 30 ≤ y ∧ Rn G (d + 1) 205 [.int y] σ = oI (Int32.ofNat c) σ := by
  have h3 := hk.1.2.2.2.1
  rw [e_Md_placeOf]
  rcases hc with ⟨h1, rfl⟩ | ⟨k', h1, h2, rfl⟩
  · exact ⟨fun h => absurd ((pEqL (c := 23) (n := 23) rfl (by decide) (by omega)).mp h) (by omega), pGoL (c := 30) (n := 30) rfl (by omega) (by decide), by rw [if_neg (pGoL (c := 20) (n := 20) rfl (by omega) (by decide))]⟩
  · refine ⟨fun h => absurd ((pEqL (c := 23) (n := 23) rfl (by decide) (by omega)).mp h) (by omega), pGoL (c := 30) (n := 30) rfl (by omega) (by decide), ?_⟩
    rw [if_pos (show (20 : Int32) ≤ Int32.ofNat (20 + k') from (pN_le (a := 20) (by decide) (by omega)).mpr (by omega)), h2]
    rcases (show k' = 0 ∨ k' = 1 ∨ k' = 2 by omega) with rfl | rfl | rfl <;> rfl
theorem a_value (ho : okAll m) (x y : Int32) : Ask G 207 209 [.int x, .int y] [(0, 1)] m := by
  have hk := ho.1
  have h60 := ho.2.1.1
  have h3 := hk.1.2.2.2.1
  rcases rngI (x := x) (n := m.2.1.1) (by omega) with ⟨k, hks, rfl⟩ | hx
  · rcases colI hk y 4 (by decide) with ⟨c, hc⟩ | hw
    · have hc16 := isCol.lt hk hc
      refine Or.inl ⟨m.2.1.2 k c, fun σ I => ⟨σ, ?_, K.rfl'⟩, fun σ I => ?_⟩
      · obtain ⟨_, ⟨q, qs, _⟩, _⟩ := I
        rw [e_Rh_value, s_columnOf (l := 23) (n := 4) q hk (by decide) rfl hc, pCI, s_hasSh qs.1 h60 hks, pCI, if_neg (show ¬ (1 : Int32) = 0 by decide), if_pos (pN_0 (by omega)), s_demand1, pXV, if_neg (pN_n0 (by omega)), s_getN (x := Int32.ofNat c) (c := c) qs h60 hks (by omega) rfl, pCI]
      · have b0 := I.2.2.k (K.rfl'.s33 (j := 0) (x := 0) (by decide))
        obtain ⟨_, _, b⟩ := I
        have e4 : (aSI σ 33 0 0).1 33 4 = Int32.ofNat (hn m.1 3) := b0.1.1 3 (by decide)
        obtain ⟨t15, t1, t2, t54, tc⟩ := b0.2.1.1 k hks
        refine rOkI ?_
        have fin : ∀ v : Int32, v = m.2.1.2 k c → (if y = 23 then (aIx (Int32.ofNat k) 60 fun j9 => if ((aSI σ 33 0 0).1 54 j9) = 0 then oI 100 (aSI σ 33 0 0) else aIx (Int32.ofNat k) 60 fun j10 => oI ((aSI σ 33 0 0).1 53 j10) (aSI σ 33 0 0)) else if (30 : Int32) ≤ y then oI v (aSI σ 33 0 0) else aCI (Rn G 59 205 [.int y] (aSI σ 33 0 0)) fun v20 σ19 => aIx ((((17 : Int32) * (Int32.ofNat k)) + v20)) 1020 fun j21 => oI (σ19.1 40 j21) σ19) = oI (m.2.1.2 k c) (aSI σ 33 0 0) := by
          intro v hv
          by_cases h15 : c = 15
          · subst h15
            have ey : y = 23 := by
              rcases hc with ⟨h1, _⟩ | ⟨k', h1, h2, h4⟩
              · omega
              · rw [h4, show k' = 3 by omega]
                rfl
            rw [if_pos ey, pIx (by omega) (by decide)]
            by_cases h54 : (aSI σ 33 0 0).1 54 k = 0
            · rw [if_pos h54] at tc
              rw [if_pos h54, tc]
            · rw [if_neg h54] at tc
              rw [if_neg h54, pIx (by omega) (by decide), tc.1]
          · obtain ⟨n23, n30, r⟩ := s_placeOf (G := G) (d := 58) (σ := aSI σ 33 0 0) hk hc h15
            rw [if_neg n23, if_neg n30, r, pCI, pM17, pA, pIx (by omega) (by decide), t15 c (by omega)]
        have y30 : ¬ 30 ≤ y := by
          rcases hc with ⟨h1, rfl⟩ | ⟨k', h1, h2, rfl⟩
          · exact pGoL (c := 30) (n := 30) rfl (by omega) (by decide)
          · exact pGoL (c := 30) (n := 30) rfl (by omega) (by decide)
        have fin' := fin _ rfl
        rw [if_neg y30] at fin'
        rw [e_Md_value, s_isSheet b.2.1.2 h60 hks, pCI, if_neg (show ¬ (1 : Int32) = 0 by decide), e4]
        rcases id hc with ⟨h1, rfl⟩ | ⟨k', h1, rfl, rfl⟩
        · rw [if_neg (pN_n0 (by omega)), if_pos (pGo' h1 (by omega)), s_right1 pSI_at, pCI, if_neg (show ¬ (1 : Int32) = 0 by decide), if_neg y30]
          exact fin'
        · rw [if_neg (pN_n0 (by omega)), if_neg (fun h => absurd ((pN_lt (by omega) (by omega)).mp h) (by omega)), s_within, pCI, pB0, if_pos ⟨show (20 : Int32) ≤ Int32.ofNat (20 + k') from (pN_le (a := 20) (by decide) (by omega)).mpr (by omega), pLe' (c := 23) (b := 23) rfl (by omega) (by decide)⟩, s_right1 pSI_at, pCI, if_neg (show ¬ (1 : Int32) = 0 by decide), if_neg y30]
          exact fin'
    · have nw : ¬ ((20 : Int32) ≤ y ∧ y ≤ 23) := by
        intro h
        rcases hw.2 with h1 | h1
        · exact absurd h1 (pNotLt.mpr h.1)
        · exact absurd (pBad (c := 23) (b := 23) rfl (by decide) h1) (pNotLt.mpr h.2)
      rcases pBdI (x := y) (a := 30) (b := 34) with hy | hy
      · have yL : ¬ y < Int32.ofNat (hn m.1 3) := by
          rcases hw.1 with h1 | h1
          · exact absurd (pNotLt.mpr (Int32.le_trans (show (0 : Int32) ≤ 30 by decide) hy.1)) (fun h => h h1)
          · exact pNotLt.mpr h1
        have y0 : ¬ y < 0 := pNotLt.mpr (Int32.le_trans (show (0 : Int32) ≤ 30 by decide) hy.1)
        have y23 : ¬ y = 23 := fun e => nw ⟨by rw [e]; decide, by rw [e]; decide⟩
        refine Or.inl ⟨if y = 30 then m.2.1.2 k 16 else if y = 31 then m.2.1.2 k 17 else if y = 32 then mSum m.1 m.2.1 k false else if y = 33 then mSum m.1 m.2.1 k true else mOff m.1 m.2.1 k, fun σ I => ?_, fun σ I => ?_⟩
        · obtain ⟨σ1, r1, f1, v1⟩ := s_siftI (G := G) (d := 52) I
          obtain ⟨_, ⟨q, qs, _⟩, _⟩ := I
          have qs1 := qs.ps f1 (by decide) (by decide)
          refine cOkS (σ' := σ1) ?_ f1 (by decide)
          rw [e_Rh_value, s_columnNo (l := 23) (n := 4) q hk (by decide) rfl hw, pCI, s_hasSh qs.1 h60 hks, pCI, if_neg (show ¬ (1 : Int32) = 0 by decide), if_neg (show ¬ (0 : Int32) ≤ -1 by decide), if_neg (pNotLt.mpr hy.1), if_neg (pNotLt.mpr hy.2), s_demand1, pXV, if_pos (show (-1 : Int32) < 0 by decide), r1, pCV]
          by_cases e30 : y = 30
          · rw [if_pos e30, if_pos e30, s_getN (x := 16) (c := 16) qs1 h60 hks (by decide) rfl, pCI]
          · rw [if_neg e30, if_neg e30]
            by_cases e31 : y = 31
            · rw [if_pos e31, if_pos e31, s_getN (x := 17) (c := 17) qs1 h60 hks (by decide) rfl, pCI]
            · rw [if_neg e31, if_neg e31]
              by_cases e32 : y = 32
              · rw [if_pos e32, if_pos e32, s_feltOf v1 h60 hks, pCI]
              · rw [if_neg e32, if_neg e32]
                by_cases e33 : y = 33
                · rw [if_pos e33, if_pos e33, s_saidOf v1 h60 hks, pCI]
                · rw [if_neg e33, if_neg e33, s_offByC v1 h60 hks, pCI]
        · have b0 := I.2.2.k (K.rfl'.s33 (j := 0) (x := 0) (by decide))
          obtain ⟨_, _, b⟩ := I
          have e4 : (aSI σ 33 0 0).1 33 4 = Int32.ofNat (hn m.1 3) := b0.1.1 3 (by decide)
          obtain ⟨t15, t1, t2, t54, tc⟩ := b0.2.1.1 k hks
          obtain ⟨σ1, r1, f1⟩ := s_offBy (G := G) (d := 55) b0.1 hk b0.2.1.1 ho.2.1 b0.2.1.2 hks
          have hd : Rn G 60 209 [.ref 33, .int (Int32.ofNat k), .int y] σ = if y = 30 then oI (m.2.1.2 k 16) (aSI σ 33 0 0) else if y = 31 then oI (m.2.1.2 k 17) (aSI σ 33 0 0) else if y = 32 then oI (mSum m.1 m.2.1 k false) (aSI σ 33 0 0) else if y = 33 then oI (mSum m.1 m.2.1 k true) (aSI σ 33 0 0) else oI (mOff m.1 m.2.1 k) σ1 := by
            rw [e_Md_value, s_isSheet b.2.1.2 h60 hks, pCI, if_neg (show ¬ (1 : Int32) = 0 by decide), e4, if_neg y0, if_neg yL, s_within, pCI, pB0, if_neg nw, s_within, pCI, pB0, if_pos hy, s_right1 pSI_at, pCI, if_neg (show ¬ (1 : Int32) = 0 by decide), if_neg y23, if_pos hy.1, pM17, pA15, pA16, pIx (by omega) (by decide), pIx (by omega) (by decide), t1, t2, s_sum b0.1 hk b0.2.1.1 hks h60 (sd := false) (x := 0) rfl, pCI, s_sum b0.1 hk b0.2.1.1 hks h60 (sd := true) (x := 1) rfl, pCI, r1, pCI]
          by_cases e30 : y = 30
          · rw [if_pos e30]
            exact rOkI (by rw [hd, if_pos e30])
          · by_cases e31 : y = 31
            · rw [if_neg e30, if_pos e31]
              exact rOkI (by rw [hd, if_neg e30, if_pos e31])
            · by_cases e32 : y = 32
              · rw [if_neg e30, if_neg e31, if_pos e32]
                exact rOkI (by rw [hd, if_neg e30, if_neg e31, if_pos e32])
              · by_cases e33 : y = 33
                · rw [if_neg e30, if_neg e31, if_neg e32, if_pos e33]
                  exact rOkI (by rw [hd, if_neg e30, if_neg e31, if_neg e32, if_pos e33])
                · rw [if_neg e30, if_neg e31, if_neg e32, if_neg e33]
                  exact rOkS (by rw [hd, if_neg e30, if_neg e31, if_neg e32, if_neg e33]) ((rS.rfl'.s33 (j := 0) (x := 0) (by decide)).trans (rS.of f1 (by decide))) ((congrFun (f1.at (by decide)) 0).trans pSI_at)
      · refine Or.inr ⟨(0, 1), by decide, fun σ I => cExI ?_, fun σ I => ?_⟩
        · obtain ⟨_, ⟨q, qs, _⟩, _⟩ := I
          rw [e_Rh_value, s_columnNo (l := 23) (n := 4) q hk (by decide) rfl hw, pCI, s_hasSh qs.1 h60 hks, pCI, if_neg (show ¬ (1 : Int32) = 0 by decide), if_neg (show ¬ (0 : Int32) ≤ -1 by decide), s_demand0, pXVt]
          by_cases h0 : y < 30
          · rw [if_pos h0]
          · rw [if_neg h0, if_pos (hy.resolve_left h0)]
        · have b0 := I.2.2.k (K.rfl'.s33 (j := 0) (x := 0) (by decide))
          obtain ⟨_, _, b⟩ := I
          have e4 : (aSI σ 33 0 0).1 33 4 = Int32.ofNat (hn m.1 3) := b0.1.1 3 (by decide)
          have n34 : ¬ ((30 : Int32) ≤ y ∧ y ≤ 34) := fun h => hy.elim (fun h1 => absurd h1 (pNotLt.mpr h.1)) (fun h1 => absurd h1 (pNotLt.mpr h.2))
          refine rExI (v := 0) ?_
          rw [e_Md_value, s_isSheet b.2.1.2 h60 hks, pCI, if_neg (show ¬ (1 : Int32) = 0 by decide), e4, s_within, pCI, pB0, if_neg nw, s_within, pCI, pB0, if_neg n34, s_right0 pSI_at (by decide), pCI, if_pos rfl, pSI_over]
          by_cases h0 : y < 0
          · rw [if_pos h0]
          · rw [if_neg h0, if_neg (pNotLt.mpr (hw.1.resolve_left h0))]
  · refine Or.inr ⟨(0, 1), by decide, fun σ I => cExI ?_, fun σ I => rExI (v := 0) ?_⟩
    · obtain ⟨_, ⟨q, qs, _⟩, _⟩ := I
      rcases colI hk y 4 (by decide) with ⟨c, hc⟩ | hw
      · rw [e_Rh_value, s_columnOf (l := 23) (n := 4) q hk (by decide) rfl hc, pCI, s_hasShO qs.1 hx, pCI, if_pos rfl, s_demand0, pXVt]
      · rw [e_Rh_value, s_columnNo (l := 23) (n := 4) q hk (by decide) rfl hw, pCI, s_hasShO qs.1 hx, pCI, if_pos rfl, s_demand0, pXVt]
    · obtain ⟨_, _, b⟩ := I
      rw [e_Md_value, s_isSheetO b.2.1.2 hx, pCI, if_pos rfl]
end PValue
