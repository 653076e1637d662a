/-! ===== the end of a sheet's reading: states, values, the class ===== -/
def yA (T : Tx) (s : Nat × Nat) : Nat × Nat := if s.1 = 0 ∧ tW T s 2 = true then mSg T 999 (0, tE T s.2) else s
def yB (T : Tx) (s : Nat × Nat) : Nat × Nat := mPz T 3 0 100 s
def yC (T : Tx) (s : Nat × Nat) : Nat × Nat := mPz T 4 0 601 (yB T s)
def yD (T : Tx) (s : Nat × Nat) : Nat × Nat := if (yC T s).1 = 0 ∧ tW T (yC T s) 38 = true then mSg T 50 (0, tE T (yC T s).2) else yC T s
def yE (T : Tx) (s : Nat × Nat) : Nat × Nat := mNeed T (tS T (yD T s) 59) (yD T s)
def shR (T : Tx) (s : Nat × Nat) (R : Nat → Int32) : Nat → Int32 := fun c => if c = 12 then (if tW T s 2 = true then vSg T (0, tE T s.2) else R 12) else R c
def tlR (T : Tx) (s : Nat × Nat) (R : Nat → Int32) : Nat → Int32 := fun c => if c = 13 then vPz T 3 0 s else if c = 14 then vPz T 4 0 (yB T s) else if c = 15 then (if tW T (yC T s) 38 = true then vSg T (0, tE T (yC T s).2) else R 15) else R c
theorem pI_neg {a : Int32} (h1 : -2147483648 ≤ - a.toInt) (h2 : - a.toInt < 2147483648) : (-a).toInt = - a.toInt := by
  rw [Int32.toInt_neg]
  exact Int.bmod_eq_of_le (by simpa using h1) (by simpa using h2)
theorem vSg_bd {T : Tx} {s : Nat × Nat} {most : Int32} {b : Int} (hm : most.toInt = b) (hb : b < 10000) (h : (mSg T most s).1 = 0) : pBd (vSg T s) (-b) b := by
  obtain ⟨_, _, h1, h2, _⟩ := mNumS_0 h
  obtain ⟨_, e⟩ := vSg_of h
  rw [e] at h1 h2
  rw [pLe] at h1 h2
  rw [hm] at h2
  have z : (0 : Int32).toInt = 0 := rfl
  rw [z] at h1
  unfold vSg pBd
  by_cases hw : tW T s 37 = true
  · rw [if_pos hw] at h1 h2
    rw [if_pos hw, pI_neg (by omega) (by omega)]
    omega
  · rw [if_neg hw] at h1 h2
    rw [if_neg hw]
    omega
theorem yA_0 {T : Tx} {s : Nat × Nat} (h : (yA T s).1 = 0) : s.1 = 0 := by
  unfold yA at h
  by_cases h0 : s.1 = 0 ∧ tW T s 2 = true
  · exact h0.1
  · rw [if_neg h0] at h
    exact h
theorem yA_b {T : Tx} {s : Nat × Nat} (h : ¬ s.1 = 0) : yA T s = s := if_neg fun e => h e.1
theorem yE_0 {T : Tx} {s : Nat × Nat} (h : (yE T s).1 = 0) : (yD T s).1 = 0 ∧ (yC T s).1 = 0 ∧ (yB T s).1 = 0 ∧ s.1 = 0 := by
  have hD : (yD T s).1 = 0 := (mNeed_0 h).1
  have hC : (yC T s).1 = 0 := by
    have h' := hD
    unfold yD at h'
    by_cases h0 : (yC T s).1 = 0 ∧ tW T (yC T s) 38 = true
    · exact h0.1
    · rw [if_neg h0] at h'
      exact h'
  have hB : (yB T s).1 = 0 := mPz_s (T := T) (x := 4) (lo := 0) (hi := 601) hC
  exact ⟨hD, hC, hB, mPz_s (T := T) (x := 3) (lo := 0) (hi := 100) hB⟩
theorem fwd_sg {T : Tx} {s : Nat × Nat} {most : Int32} : fwd T s (mSg T most s) := (fwd_co (x := 37)).trans (fun h => (mNumS_0 h).1) fwd_num
theorem fwd_yA {T : Tx} {s : Nat × Nat} : fwd T s (yA T s) := by
  unfold yA
  split
  · exact (fwd_te rfl).trans (fun _ => rfl) fwd_sg
  · exact fwd_id
theorem fwd_yD {T : Tx} {s : Nat × Nat} : fwd T (yC T s) (yD T s) := by
  unfold yD
  split
  · exact (fwd_te rfl).trans (fun _ => rfl) fwd_sg
  · exact fwd_id
theorem fwd_yE {T : Tx} {s : Nat × Nat} : fwd T s (yE T s) := by
  intro h h0
  obtain ⟨hD, hC, hB, hs⟩ := yE_0 h0
  have a := (fwd_pz (T := T) (s := s) (x := 3) (lo := 0) (hi := 100)) h hB
  have b := (fwd_pz (T := T) (s := yB T s) (x := 4) (lo := 0) (hi := 601)) a.2 hC
  have c := (fwd_yD (T := T) (s := s)) b.2 hD
  have e := (fwd_need (T := T) (s := yD T s) (b := tS T (yD T s) 59)) c.2 h0
  have a1 : s.2 ≤ (yB T s).2 := a.1
  have b1 : (yB T s).2 ≤ (yC T s).2 := b.1
  exact ⟨Nat.le_trans a1 (Nat.le_trans b1 (Nat.le_trans c.1 e.1)), e.2⟩
/-- behind the end a sheet's columns are within their bounds -/
theorem okT_tail {h : Ho} {T : Tx} {s : Nat × Nat} {R : Nat → Int32} (h0 : (yE T (yA T s)).1 = 0) (q1 : ∃ p, p < hn h 0 ∧ R 16 = Int32.ofNat p) (q2 : ∃ p, p < hn h 1 ∧ R 17 = Int32.ofNat p) (q3 : ∀ c, c < 12 → pBd (R c) (-3) 3) (q4 : R 12 = 0) (q5 : R 15 = 100) : okT h (tlR T (yA T s) (shR T s R)) ∧ (tW T (yC T (yA T s)) 38 = true → tlR T (yA T s) (shR T s R) 15 ≠ 100) := by
  obtain ⟨hD, hC, hB, hA⟩ := yE_0 h0
  have z : (0 : Int32).toInt = 0 := rfl
  have hsg : tW T (yC T (yA T s)) 38 = true → pBd (vSg T (0, tE T (yC T (yA T s)).2)) (-50) 50 := by
    intro hw
    unfold yD at hD
    rw [if_pos ⟨hC, hw⟩] at hD
    exact vSg_bd (most := 50) rfl (by decide) hD
  have e15 : tlR T (yA T s) (shR T s R) 15 = if tW T (yC T (yA T s)) 38 = true then vSg T (0, tE T (yC T (yA T s)).2) else R 15 := rfl
  refine ⟨⟨q1, q2, fun c hc => ?_, ?_, ?_, ?_, ?_⟩, fun hw e => ?_⟩
  · have e : tlR T (yA T s) (shR T s R) c = R c := by
      unfold tlR shR
      rw [if_neg (by omega), if_neg (by omega), if_neg (by omega), if_neg (by omega)]
    rw [e]
    exact q3 c hc
  · have e : tlR T (yA T s) (shR T s R) 12 = if tW T s 2 = true then vSg T (0, tE T s.2) else R 12 := rfl
    rw [e]
    by_cases hw : tW T s 2 = true
    · rw [if_pos hw]
      have hs := yA_0 hA
      unfold yA at hA
      rw [if_pos ⟨hs, hw⟩] at hA
      exact vSg_bd (most := 999) rfl (by decide) hA
    · rw [if_neg hw, q4]
      exact ⟨by rw [z]; decide, by rw [z]; decide⟩
  · have e : tlR T (yA T s) (shR T s R) 13 = vPz T 3 0 (yA T s) := rfl
    rw [e]
    obtain ⟨_, a, b⟩ := mPz_0 (T := T) (x := 3) (lo := 0) (hi := 100) (w := 0) (by decide) (by decide) hB
    exact pBd_of rfl rfl a b
  · have e : tlR T (yA T s) (shR T s R) 14 = vPz T 4 0 (yB T (yA T s)) := rfl
    rw [e]
    obtain ⟨_, a, b⟩ := mPz_0 (T := T) (x := 4) (lo := 0) (hi := 601) (w := 0) (by decide) (by decide) hC
    exact pBd_of rfl rfl a b
  · rw [e15]
    by_cases hw : tW T (yC T (yA T s)) 38 = true
    · rw [if_pos hw]
      exact Or.inr (hsg hw)
    · rw [if_neg hw]
      exact Or.inl q5
  · rw [e15, if_pos hw] at e
    have b := hsg hw
    rw [e] at b
    exact absurd b.2 (by decide)
section PCTail
variable {G : Nat × (Nat → Int32)} {d k : Nat} {σ : aH} {T : Tx} {s : Nat × Nat}
theorem s_tlC (q : CS σ T s) (hk : k < 60) : ∃ b, tlC G (d + 10) (Int32.ofNat k) σ = oV b ∧ pSame [1, 14] σ b ∧ CS b T (yE T s) ∧ otC k σ b ∧ ((yE T s).1 = 0 → ∀ R, rwC σ k R → rwC b k (tlR T s R)) := by
  have m13 : ∀ a, Rn G (d + 10) 104 [.int (13 : Int32)] a = oI 100 a := fun a => s_most (G := G) (d := d + 8) (σ := a) (c := 13) (by decide)
  have m14 : ∀ a, Rn G (d + 10) 104 [.int (14 : Int32)] a = oI 601 a := fun a => s_most (G := G) (d := d + 8) (σ := a) (c := 14) (by decide)
  have m15 : ∀ a, Rn G (d + 10) 104 [.int (15 : Int32)] a = oI 50 a := fun a => s_most (G := G) (d := d + 8) (σ := a) (c := 15) (by decide)
  have st : ∀ (c : Nat) (y : Int32), y = Int32.ofNat c → c < 18 → ∀ (v : Int32) (a : aH), Rn G (d + 10) 101 [.ref 13, .int (Int32.ofNat k), .int y, .int v] a = oV (aSI a 14 (18 * k + c) v) := fun c y hy hc v a => by
    rw [hy]
    exact s_setC (G := G) (d := d + 8) hk hc
  obtain ⟨v1, a1, e1, f1, g1, h1⟩ := s_takePh (G := G) (d := d + 1) (r := 120) (x := 3) so_120 (by decide) q 0 100 0
  have g2 : CS (aSI a1 14 (18 * k + 13) v1) T (yB T s) := CS.ps (os := [14]) g1 (pSame.rfl'.si (by decide)) (by decide) (by decide)
  obtain ⟨v2, a3, e3, f3, g3, h3⟩ := s_takePh (G := G) (d := d + 1) (r := 122) (x := 4) so_122 (by decide) g2 0 601 0
  have g4 : CS (aSI a3 14 (18 * k + 14) v2) T (yC T s) := CS.ps (os := [14]) g3 (pSame.rfl'.si (by decide)) (by decide) (by decide)
  obtain ⟨a5, e5, f5, g5⟩ := s_takeIf (G := G) (d := d + 2) (r := 124) (x := 38) so_124 (by decide) g4
  have F5 : pSame [1, 14] σ a5 := ((((f1.mono (by decide)).si (by decide)).trans (f3.mono (by decide))).si (by decide)).trans (f5.mono (by decide))
  have c5 : ∀ j, a5.1 14 j = if j = 18 * k + 14 then v2 else if j = 18 * k + 13 then v1 else σ.1 14 j := by
    intro j
    rw [f5.at (by decide)]
    by_cases e : j = 18 * k + 14
    · rw [if_pos e, e, pSI_at]
    · rw [if_neg e, pSI_of e, f3.at (by decide)]
      by_cases e2 : j = 18 * k + 13
      · rw [if_pos e2, e2, pSI_at]
      · rw [if_neg e2, pSI_of e2, f1.at (by decide)]
  have w1 : (yE T s).1 = 0 → v1 = vPz T 3 0 s := fun h => h1 (yE_0 h).2.2.1
  have w2 : (yE T s).1 = 0 → v2 = vPz T 4 0 (yB T s) := fun h => h3 (yE_0 h).2.1
  unfold tlC
  by_cases hc : (yC T s).1 = 0 ∧ tW T (yC T s) 38 = true
  · rw [if_pos hc] at g5 e5
    have eD : yD T s = mSg T 50 (0, tE T (yC T s).2) := if_pos hc
    obtain ⟨v3, a6, e6, f6, g6, h6⟩ := s_takeSg (G := G) (d := d + 1) g5 50
    rw [← eD] at g6 h6
    have g7 : CS (aSI a6 14 (18 * k + 15) v3) T (yD T s) := CS.ps (os := [14]) g6 (pSame.rfl'.si (by decide)) (by decide) (by decide)
    obtain ⟨b, e8, f8, g8⟩ := s_takeSemi (G := G) (d := d + 2) g7
    refine ⟨b, ?_, ((F5.trans (f6.mono (by decide))).si (by decide)).trans (f8.mono (by decide)), g8, fun j hj => ?_, fun hz R row c hc18 => ?_⟩
    · rw [m13, pCI, e1, pCI, st 13 13 rfl (by decide), pCV, m14, pCI, e3, pCI, st 14 14 rfl (by decide), pCV, e5, pCI, if_neg (by decide), m15, pCI, e6, pCI, st 15 15 rfl (by decide), pCV, e8, pCV]
    · rw [f8.at (by decide), pSI_of (by omega), f6.at (by decide), c5, if_neg (by omega), if_neg (by omega)]
    · have hD := (yE_0 hz).1
      rw [f8.at (by decide)]
      unfold tlR
      by_cases e15 : c = 15
      · subst e15
        rw [pSI_at, if_neg (by decide), if_neg (by decide), if_pos rfl, if_pos hc.2, h6 hD]
      · rw [pSI_of (by omega), f6.at (by decide), c5]
        by_cases e14 : c = 14
        · subst e14
          rw [if_pos rfl, if_neg (by decide), if_pos rfl, w2 hz]
        · rw [if_neg (by omega)]
          by_cases e13 : c = 13
          · subst e13
            rw [if_pos rfl, if_pos rfl, w1 hz]
          · rw [if_neg (by omega), if_neg e13, if_neg e14, if_neg e15, row c hc18]
  · rw [if_neg hc] at g5 e5
    have eD : yD T s = yC T s := if_neg hc
    rw [← eD] at g5
    obtain ⟨b, e8, f8, g8⟩ := s_takeSemi (G := G) (d := d + 2) g5
    refine ⟨b, ?_, F5.trans (f8.mono (by decide)), g8, fun j hj => ?_, fun hz R row c hc18 => ?_⟩
    · rw [m13, pCI, e1, pCI, st 13 13 rfl (by decide), pCV, m14, pCI, e3, pCI, st 14 14 rfl (by decide), pCV, e5, pCI, if_pos rfl, e8, pCV]
    · rw [f8.at (by decide), c5, if_neg (by omega), if_neg (by omega)]
    · have hC := (yE_0 hz).2.1
      have nw : ¬ tW T (yC T s) 38 = true := fun e => hc ⟨hC, e⟩
      rw [f8.at (by decide), c5]
      unfold tlR
      by_cases e14 : c = 14
      · subst e14
        rw [if_pos rfl, if_neg (by decide), if_pos rfl, w2 hz]
      · rw [if_neg (by omega)]
        by_cases e13 : c = 13
        · subst e13
          rw [if_pos rfl, if_pos rfl, w1 hz]
        · rw [if_neg (by omega), if_neg e13, if_neg e14, row c hc18]
          by_cases e15 : c = 15
          · subst e15
            rw [if_pos rfl, if_neg nw]
          · rw [if_neg e15]
theorem s_tlC0 (q : CS σ T s) (hk : k < 60) : ∃ b, tlC0 G (d + 10) (Int32.ofNat k) σ = oV b ∧ pSame [1, 14] σ b ∧ CS b T (yE T (yA T s)) ∧ otC k σ b ∧ ((yE T (yA T s)).1 = 0 → ∀ R, rwC σ k R → rwC b k (tlR T (yA T s) (shR T s R))) := by
  have m12 : ∀ a, Rn G (d + 10) 104 [.int (12 : Int32)] a = oI 999 a := fun a => s_most (G := G) (d := d + 8) (σ := a) (c := 12) (by decide)
  have st : ∀ (v : Int32) (a : aH), Rn G (d + 10) 101 [.ref 13, .int (Int32.ofNat k), .int 12, .int v] a = oV (aSI a 14 (18 * k + 12) v) := fun v a => s_setC (G := G) (d := d + 8) (c := 12) hk (by decide)
  obtain ⟨a1, e1, f1, g1⟩ := s_takeIf (G := G) (d := d + 2) (r := 118) (x := 2) so_118 (by decide) q
  unfold tlC0
  by_cases hc : s.1 = 0 ∧ tW T s 2 = true
  · rw [if_pos hc] at g1 e1
    have eA : yA T s = mSg T 999 (0, tE T s.2) := if_pos hc
    obtain ⟨v2, a2, e2, f2, g2, h2⟩ := s_takeSg (G := G) (d := d + 1) g1 999
    rw [← eA] at g2 h2
    have g3 : CS (aSI a2 14 (18 * k + 12) v2) T (yA T s) := CS.ps (os := [14]) g2 (pSame.rfl'.si (by decide)) (by decide) (by decide)
    obtain ⟨b, e, f, g, o, r⟩ := s_tlC (G := G) (d := d) g3 hk
    refine ⟨b, ?_, (((f1.mono (by decide)).trans (f2.mono (by decide))).si (by decide)).trans f, g, fun j hj => ?_, fun hz R row => r hz _ fun c hc18 => ?_⟩
    · rw [e1, pCI, if_neg (by decide), m12, pCI, e2, pCI, st, pCV, e]
    · rw [o j hj, pSI_of (by omega), f2.at (by decide), f1.at (by decide)]
    · unfold shR
      by_cases e12 : c = 12
      · subst e12
        rw [pSI_at, if_pos rfl, if_pos hc.2, h2 (yE_0 hz).2.2.2]
      · rw [pSI_of (by omega), f2.at (by decide), f1.at (by decide), if_neg e12, row c hc18]
  · rw [if_neg hc] at g1 e1
    have eA : yA T s = s := if_neg hc
    obtain ⟨b, e, f, g, o, r⟩ := s_tlC (G := G) (d := d) g1 hk
    rw [← eA] at g r
    refine ⟨b, ?_, (f1.mono (by decide)).trans f, g, fun j hj => ?_, fun hz R row => ?_⟩
    · rw [e1, pCI, if_pos rfl, e]
    · rw [o j hj, f1.at (by decide)]
    · have hs := yA_0 (yE_0 hz).2.2.2
      have nw : ¬ tW T s 2 = true := fun e => hc ⟨hs, e⟩
      have eR : ∀ c, shR T s R c = R c := fun c => by
        unfold shR
        by_cases e12 : c = 12
        · rw [if_pos e12, if_neg nw, e12]
        · rw [if_neg e12]
      exact r hz (shR T s R) fun c hc18 => by rw [eR, f1.at (by decide), row c hc18]
end PCTail
