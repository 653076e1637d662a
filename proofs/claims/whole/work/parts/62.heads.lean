/-! ===== questions of heads ===== -/
section PHq
variable {G : Nat × (Nat → Int32)} {d : Nat} {σ : aH} {m : St}
/-- a law, a person and a sitting that there are -/
def are (h : Ho) (x y z : Int32) (l p s : Nat) : Prop := l < hn h 2 ∧ p < hn h 0 ∧ s < hn h 1 ∧ x = Int32.ofNat l ∧ y = Int32.ofNat p ∧ z = Int32.ofNat s
theorem s_demandAllOk (q : cHo σ m.1) (hk : Hok m.1) {x y z : Int32} {l p s : Nat} (a : are m.1 x y z l p s) : Rn G (d + 3) 157 [.ref 0, .int x, .int y, .int z] σ = oV σ := by
  obtain ⟨hl, hp, hs, rfl, rfl, rfl⟩ := a
  obtain ⟨k0, k1, k2, _⟩ := hk.1
  rw [e_Rh_demandAll, s_hasN (x1 := 2) (k := 2) rfl (by decide) (q.1 2 (by decide)) (by omega) (by omega), pCI, pB0, if_pos hl, s_hasN (x1 := 0) (k := 0) rfl (by decide) (q.1 0 (by decide)) (by omega) (by omega), pCI, pB0, if_pos hp, s_hasN (x1 := 1) (k := 1) rfl (by decide) (q.1 1 (by decide)) (by omega) (by omega), pCI, pB0, if_pos hs, s_demand1, pXV]
theorem s_demandAllNo (q : cHo σ m.1) (hk : Hok m.1) {x y z : Int32} (a : ¬ ∃ l p s, are m.1 x y z l p s) : Rn G (d + 3) 157 [.ref 0, .int x, .int y, .int z] σ = oX 0 σ := by
  obtain ⟨k0, k1, k2, _⟩ := hk.1
  rw [e_Rh_demandAll]
  rcases rngI (x := x) (n := hn m.1 2) (by omega) with ⟨l, hl, rfl⟩ | hx
  · rw [s_hasN (x1 := 2) (k := 2) rfl (by decide) (q.1 2 (by decide)) (by omega) (by omega), pCI, pB0, if_pos hl]
    rcases rngI (x := y) (n := hn m.1 0) (by omega) with ⟨p, hp, rfl⟩ | hy
    · rw [s_hasN (x1 := 0) (k := 0) rfl (by decide) (q.1 0 (by decide)) (by omega) (by omega), pCI, pB0, if_pos hp]
      rcases rngI (x := z) (n := hn m.1 1) (by omega) with ⟨s, hs, rfl⟩ | hz
      · exact absurd ⟨l, p, s, hl, hp, hs, rfl, rfl, rfl⟩ a
      · rw [s_hasO (x1 := 1) (k := 1) rfl (by decide) (q.1 1 (by decide)) hz, pCI, if_pos rfl, s_demand0, pXVt]
    · rw [s_hasO (x1 := 0) (k := 0) rfl (by decide) (q.1 0 (by decide)) hy, pCI, if_pos rfl, s_demand0, pXVt]
  · rw [s_hasO (x1 := 2) (k := 2) rfl (by decide) (q.1 2 (by decide)) hx, pCI, if_pos rfl, s_demand0, pXVt]
theorem s_isHeadOk (q : rHo σ m.1) (hk : Hok m.1) {x y z : Int32} {l p s : Nat} (a : are m.1 x y z l p s) : ∃ σ', Rn G (d + 2) 167 [.ref 33, .int x, .int y, .int z] σ = oI 1 σ' ∧ rS σ σ' ∧ σ'.1 33 0 = 0 ∧ pHm σ' l (mkH (hP m.1) (hS m.1) (hL m.1) p s l) := by
  obtain ⟨hl, hp, hs, rfl, rfl, rfl⟩ := a
  obtain ⟨k0, k1, k2, _⟩ := hk.1
  have e1 : σ.1 33 1 = Int32.ofNat (hn m.1 0) := q.1 0 (by decide)
  have e2 : σ.1 33 2 = Int32.ofNat (hn m.1 1) := q.1 1 (by decide)
  have e3 : σ.1 33 3 = Int32.ofNat (hn m.1 2) := q.1 2 (by decide)
  obtain ⟨σ1, r1, f1, g1⟩ := s_asks (G := G) (d := d) (σ := aSI σ 33 0 0) (p := p) (s := s) (by omega) (by omega)
  have g : rS σ (aSI σ 33 0 0) := rS.rfl'.s33 (by decide)
  refine ⟨σ1, ?_, g.trans (rS.of f1 (by decide)), (congrFun (f1.at (by decide)) 0).trans pSI_at, pHm_of ?_ ?_ ?_⟩
  · rw [e_Md_isHead, e1, e2, e3, if_neg (pN_n0 (by omega)), if_neg (pGo hl (by omega)), if_neg (pN_n0 (by omega)), if_neg (pGo hp (by omega)), if_neg (pN_n0 (by omega)), if_neg (pGo hs (by omega)), s_r1, pCI, if_neg (by decide), r1, pCV]
  · intro k hk
    rw [(g1 k hk).1, pSI_ne (by decide), q.2.1 p hp k hk]
  · intro k hk
    rw [(g1 k hk).2, pSI_ne (by decide), q.2.2.1 s hs k hk]
  · intro k hk
    rw [f1.at (by decide), pSI_ne (by decide), q.2.2.2.1 l hl k hk]
theorem s_isHeadNo (q : rHo σ m.1) (hk : Hok m.1) {x y z : Int32} (a : ¬ ∃ l p s, are m.1 x y z l p s) : Rn G (d + 2) 167 [.ref 33, .int x, .int y, .int z] σ = oI 0 (aSI σ 33 0 1) := by
  obtain ⟨k0, k1, k2, _⟩ := hk.1
  have e1 : σ.1 33 1 = Int32.ofNat (hn m.1 0) := q.1 0 (by decide)
  have e2 : σ.1 33 2 = Int32.ofNat (hn m.1 1) := q.1 1 (by decide)
  have e3 : σ.1 33 3 = Int32.ofNat (hn m.1 2) := q.1 2 (by decide)
  rw [e_Md_isHead, e1, e2, e3, s_r0 (by decide), pCI, if_pos rfl]
  rcases rngI (x := x) (n := hn m.1 2) (by omega) with ⟨l, hl, rfl⟩ | hx
  · rw [if_neg (pN_n0 (by omega)), if_neg (pGo hl (by omega))]
    rcases rngI (x := y) (n := hn m.1 0) (by omega) with ⟨p, hp, rfl⟩ | hy
    · rw [if_neg (pN_n0 (by omega)), if_neg (pGo hp (by omega))]
      rcases rngI (x := z) (n := hn m.1 1) (by omega) with ⟨s, hs, rfl⟩ | hz
      · exact absurd ⟨l, p, s, hl, hp, hs, rfl, rfl, rfl⟩ a
      · by_cases h0 : z < 0
        · rw [if_pos h0]
        · rw [if_neg h0, if_pos (hz.resolve_left h0)]
    · by_cases h0 : y < 0
      · rw [if_pos h0]
      · rw [if_neg h0, if_pos (hy.resolve_left h0)]
  · by_cases h0 : x < 0
    · rw [if_pos h0]
    · rw [if_neg h0, if_pos (hx.resolve_left h0)]
/-- the class takes a head -/
theorem s_takeC (q : cHo σ m.1) (hk : Hok m.1) {x y z : Int32} {l p s : Nat} (a : are m.1 x y z l p s) : ∃ σ', Rn G (d + 4) 158 [.ref 24, .ref 3, .int x, .int y, .int z] σ = oV σ' ∧ pSame [24] σ σ' ∧ pHc σ' (mkH (hP m.1) (hS m.1) (hL m.1) p s l) := by
  obtain ⟨hl, hp, hs, rfl, rfl, rfl⟩ := a
  obtain ⟨k0, k1, k2, _⟩ := hk.1
  exact s_take (by omega) (by omega) (by omega) (fun k h => q.2.1 p hp k h) (fun k h => q.2.2.1 s hs k h) (fun k h => q.2.2.2.1 l hl k h)
theorem pHr_are (hk : Hok m.1) {x y z : Int32} {l p s : Nat} (a : are m.1 x y z l p s) : pHr (mkH (hP m.1) (hS m.1) (hL m.1) p s l) := pHr_of (hk.2.1 p a.2.1) (hk.2.2.1 s a.2.2.1) (hk.2.2.2.1 l a.1)
theorem rOkS {G : Nat × (Nat → Int32)} {mid : Nat} {as : List Value} {σ σ' : aH} {v : Int32} (h : Rn G 60 mid as σ = oI v σ') (f : rS σ σ') (h0 : σ'.1 33 0 = 0) : rOk G mid as σ v := ⟨σ', h, K.rs f, h0, (f.1 63 (by decide)).2⟩
theorem rExS {G : Nat × (Nat → Int32)} {mid : Nat} {as : List Value} {σ σ' : aH} {v t : Int32} (h : Rn G 60 mid as σ = oI v σ') (f : rS σ σ') (h0 : σ'.1 33 0 = t) : rEx G mid as σ t := ⟨v, σ', h, K.rs f, h0, (f.1 63 (by decide)).2⟩
theorem cOkS {G : Nat × (Nat → Int32)} {mid : Nat} {as : List Value} {σ σ' : aH} {v : Int32} {os : List Nat} (h : Rn G 60 mid as σ = oI v σ') (f : pSame os σ σ') (ho : ∀ o ∈ os, o ∉ 33 :: coreL) : cOk G mid as σ v := ⟨σ', h, K.ps f ho⟩
theorem a_held (ho : okAll m) (x y z w : Int32) : Ask G 174 178 [.int x, .int y, .int z, .int w] [(0, 1)] m := by
  have hk := ho.1
  by_cases a : ∃ l p s, are m.1 x y z l p s
  · obtain ⟨l, p, s, a⟩ := a
    have hr := pHr_are hk a
    have hl : l < 6 := by have := hk.1.2.2.1; have := a.1; omega
    have ex : x = Int32.ofNat l := a.2.2.2.1
    rcases rngI (x := w) (n := 3) (by decide) with ⟨j, hj, rfl⟩ | hw
    · refine Or.inl ⟨if j = 0 then pHeld (mkH (hP m.1) (hS m.1) (hL m.1) p s l) else if j = 1 then pDrift (mkH (hP m.1) (hS m.1) (hL m.1) p s l) (pHeld (mkH (hP m.1) (hS m.1) (hL m.1) p s l)) else pComes (mkH (hP m.1) (hS m.1) (hL m.1) p s l), fun σ I => ?_, fun σ I => ?_⟩
      · obtain ⟨_, ⟨q, _⟩, _⟩ := I
        obtain ⟨σ1, r1, f1, g1⟩ := s_takeC (G := G) (d := 55) q hk a
        have g2 : pHc (aSI σ1 24 16 (pHeld (mkH (hP m.1) (hS m.1) (hL m.1) p s l))) (mkH (hP m.1) (hS m.1) (hL m.1) p s l) := fun k hk => (pSI_of (by omega)).trans (g1 k hk)
        rcases (show j = 0 ∨ j = 1 ∨ j = 2 by omega) with rfl | rfl | rfl
        · refine cOkS (os := [24]) (σ' := aSI σ1 24 16 (pHeld (mkH (hP m.1) (hS m.1) (hL m.1) p s l))) ?_ (f1.si (by decide)) (by decide)
          rw [e_Rh_held, s_demandAllOk q hk a, pXV, if_neg (by decide), if_neg (by decide), s_demand1, pXV, r1, pCV, if_neg (by decide), s_settle g1 hr, pCV, if_pos (show Int32.ofNat 0 = 0 from rfl), if_pos rfl, pSI_at]
        · refine cOkS (os := [24]) (σ' := aSI σ1 24 16 (pHeld (mkH (hP m.1) (hS m.1) (hL m.1) p s l))) ?_ (f1.si (by decide)) (by decide)
          rw [e_Rh_held, s_demandAllOk q hk a, pXV, if_neg (by decide), if_neg (by decide), s_demand1, pXV, r1, pCV, if_neg (show ¬ Int32.ofNat 1 = 2 by decide), s_settle g1 hr, pCV, if_neg (show ¬ Int32.ofNat 1 = 0 by decide), s_drift g2 hr, pCI, if_neg (by decide), if_pos rfl, pSI_at]
        · refine cOkS (os := [24]) (σ' := σ1) ?_ f1 (by decide)
          rw [e_Rh_held, s_demandAllOk q hk a, pXV, if_neg (by decide), if_neg (by decide), s_demand1, pXV, r1, pCV, if_pos (show Int32.ofNat 2 = 2 from rfl), s_comes g1 hr, pCI, if_neg (by decide), if_neg (by decide)]
      · obtain ⟨_, _, ⟨q, _⟩⟩ := I
        obtain ⟨σ1, r1, f1, g0, g1⟩ := s_isHeadOk (G := G) (d := 57) q hk a
        refine rOkS (σ' := σ1) ?_ f1 g0
        rw [e_Md_held, r1, pCI, if_neg (by decide), s_within, pCI, if_pos ⟨pN_0 (by omega), pLe' (c := 2) (b := 2) rfl (by omega) (by decide)⟩, s_right1 g0, pCI, if_neg (by decide), ex]
        rcases (show j = 0 ∨ j = 1 ∨ j = 2 by omega) with rfl | rfl | rfl
        · rw [if_pos (show Int32.ofNat 0 = 0 from rfl), s_heldBy hl g1 hr, pCI, if_pos rfl]
        · rw [if_neg (show ¬ Int32.ofNat 1 = 0 by decide), if_pos (show Int32.ofNat 1 = 1 from rfl), s_driftBy hl g1 hr, pCI, if_neg (by decide), if_pos rfl]
        · rw [if_neg (show ¬ Int32.ofNat 2 = 0 by decide), if_neg (show ¬ Int32.ofNat 2 = 1 by decide), s_comesBy hl g1 hr, pCI, if_neg (by decide), if_neg (by decide)]
    · refine Or.inr ⟨(0, 1), by decide, fun σ I => cExI ?_, fun σ I => ?_⟩
      · obtain ⟨_, ⟨q, _⟩, _⟩ := I
        rw [e_Rh_held, s_demandAllOk q hk a, pXV]
        by_cases h0 : w < 0
        · rw [if_pos h0, s_demand0, pXVt]
        · rw [if_neg h0, if_pos (pBad (c := 2) (b := 2) rfl (by decide) (hw.resolve_left h0)), s_demand0, pXVt]
      · obtain ⟨_, _, ⟨q, _⟩⟩ := I
        obtain ⟨σ1, r1, f1, g0, g1⟩ := s_isHeadOk (G := G) (d := 57) q hk a
        refine rExS (v := 0) (σ' := aSI σ1 33 0 1) ?_ (f1.s33 (by decide)) pSI_at
        rw [e_Md_held, r1, pCI, if_neg (by decide), s_within, pCI, if_neg (pOut (c := 2) (b := 2) rfl (by decide) hw), s_right0 g0 (by decide), pCI, if_pos rfl]
  · refine Or.inr ⟨(0, 1), by decide, fun σ I => cExI ?_, fun σ I => rExI (v := 0) ?_⟩
    · obtain ⟨_, ⟨q, _⟩, _⟩ := I
      rw [e_Rh_held, s_demandAllNo q hk a, pXVt]
    · obtain ⟨_, _, ⟨q, _⟩⟩ := I
      rw [e_Md_held, s_isHeadNo q hk a, pCI, if_pos rfl]
theorem a_one (ho : okAll m) (x y z w : Int32) : Ask G 156 166 [.int x, .int y, .int z, .int w] [(0, 1), (1, 2)] m := by
  have hk := ho.1
  by_cases a : ∃ l p s, are m.1 x y z l p s
  · obtain ⟨l, p, s, a⟩ := a
    have hr := pHr_are hk a
    have hl : l < 6 := by have := hk.1.2.2.1; have := a.1; omega
    have hs20 : s < 20 := by have := hk.1.2.1; have := a.2.2.1; omega
    have ex : x = Int32.ofNat l := a.2.2.2.1
    have ez : z = Int32.ofNat s := a.2.2.2.2.2
    have b5 := (hk.2.2.1 s a.2.2.1).2.2.2.2.2
    obtain ⟨n, hn6, en⟩ : ∃ n : Nat, n ≤ 600 ∧ hS m.1 (6 * s + 5) = Int32.ofNat n := ⟨(hS m.1 (6 * s + 5)).toNatClampNeg, by have := b5.lt (by omega); have := b5.2; omega, b5.nn (by omega)⟩
    rcases rngI (x := w) (n := n + 1) (by omega) with ⟨j, hj, rfl⟩ | hw
    · refine Or.inl ⟨pBehind (mkH (hP m.1) (hS m.1) (hL m.1) p s l) j, fun σ I => ?_, fun σ I => ?_⟩
      · obtain ⟨_, ⟨q, _⟩, _⟩ := I
        obtain ⟨σ1, r1, f1, g1⟩ := s_takeC (G := G) (d := 55) q hk a
        refine cOkS (os := [24]) (σ' := σ1) ?_ f1 (by decide)
        rw [e_Rh_one, s_demandAllOk q hk a, pXV, if_neg (pN_n0 (by omega)), ez, s_toldS (i := s) (w := 5) (x3 := 5) rfl rfl hs20 (by decide), pCI, q.2.2.1 s a.2.2.1 5 (by decide), en, if_neg (pLB (b := n) rfl (by omega) (by omega)), s_allow1, pXV, ← ez, r1, pCV, s_oneBehind g1 (by omega), pCI]
      · obtain ⟨_, _, ⟨q, _⟩⟩ := I
        obtain ⟨σ1, r1, f1, g0, g1⟩ := s_isHeadOk (G := G) (d := 57) q hk a
        have e5 : σ1.1 51 5 = Int32.ofNat n := (g1.2.1 5 (by decide)).trans en
        refine rOkS (σ' := σ1) ?_ f1 g0
        rw [e_Md_one, r1, pCI, if_neg (by decide), e5, s_within, pCI, if_pos ⟨pN_0 (by omega), pLe' (b := n) rfl (by omega) (by omega)⟩, s_right1 g0, pCI, if_neg (by decide), ex, s_behind hl g1 hr (by omega), pCI]
    · refine Or.inr ⟨(1, 2), by decide, fun σ I => cExI ?_, fun σ I => ?_⟩
      · obtain ⟨_, ⟨q, _⟩, _⟩ := I
        rw [e_Rh_one, s_demandAllOk q hk a, pXV]
        by_cases h0 : w < 0
        · rw [if_pos h0, s_allow0, pXVt]
        · rw [if_neg h0, ez, s_toldS (i := s) (w := 5) (x3 := 5) rfl rfl hs20 (by decide), pCI, q.2.2.1 s a.2.2.1 5 (by decide), en, if_pos (pBad (b := n) rfl (by omega) (hw.resolve_left h0)), s_allow0, pXVt]
      · obtain ⟨_, _, ⟨q, _⟩⟩ := I
        obtain ⟨σ1, r1, f1, g0, g1⟩ := s_isHeadOk (G := G) (d := 57) q hk a
        have e5 : σ1.1 51 5 = Int32.ofNat n := (g1.2.1 5 (by decide)).trans en
        refine rExS (v := 0) (σ' := aSI σ1 33 0 2) ?_ (f1.s33 (by decide)) pSI_at
        rw [e_Md_one, r1, pCI, if_neg (by decide), e5, s_within, pCI, if_neg (pOut (b := n) rfl (by omega) hw), s_right0 g0 (by decide), pCI, if_pos rfl]
  · refine Or.inr ⟨(0, 1), by decide, fun σ I => cExI ?_, fun σ I => rExI (v := 0) ?_⟩
    · obtain ⟨_, ⟨q, _⟩, _⟩ := I
      rw [e_Rh_one, s_demandAllNo q hk a, pXVt]
    · obtain ⟨_, _, ⟨q, _⟩⟩ := I
      rw [e_Md_one, s_isHeadNo q hk a, pCI, if_pos rfl]
end PHq
