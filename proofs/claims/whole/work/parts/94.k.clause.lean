/-! ===== a person, a sitting, a law, on both sides (by wip/gen/emit_clause.py) ===== -/
theorem mPz_s {T : Tx} {x : Nat} {lo hi : Int32} {s : Nat × Nat} (h : (mPz T x lo hi s).1 = 0) : s.1 = 0 := by
  unfold mPz at h
  by_cases h0 : s.1 = 0 ∧ tW T s x = true
  · exact h0.1
  · rw [if_neg h0] at h
    exact h
theorem mCo_0 {T : Tx} {x : Nat} {s : Nat × Nat} (h : (mCo T x s).1 = 0) : s.1 = 0 := by
  unfold mCo at h
  by_cases h0 : s.1 = 0 ∧ tW T s x = true
  · exact h0.1
  · rw [if_neg h0] at h
    exact h
def vIf (T : Tx) (x : Nat) (s : Nat × Nat) : Int32 := if tW T s x = true then 1 else 0
theorem RS.ps {σ : aH} {T : Tx} {s : Nat × Nat} {σ' : aH} {os : List Nat} (q : RS σ T s) (f : pSame os σ σ') (h1 : 33 ∉ os) (h2 : 41 ∉ os) : RS σ' T s := q.same (fun k _ _ => congrFun (f.at h1) k) (congrFun (f 33 h1).2 25) (f.at h2)
theorem pM5N (n : Nat) : (5 : Int32) * Int32.ofNat n = Int32.ofNat (5 * n) := (Int32.ofNat_mul 5 n).symm
theorem pM6N (n : Nat) : (6 : Int32) * Int32.ofNat n = Int32.ofNat (6 * n) := (Int32.ofNat_mul 6 n).symm
theorem pPlus {c : Int32} {k : Nat} (hc : c = Int32.ofNat k) (n : Nat) : Int32.ofNat n + c = Int32.ofNat (n + k) := by
  rw [hc, ← Int32.ofNat_add]
def zP1 (T : Tx) (s : Nat × Nat) : Nat × Nat := mFd T 13 1 99 s
def zP2 (T : Tx) (s : Nat × Nat) : Nat × Nat := mFd T 14 1 99 (zP1 T s)
def zP3 (T : Tx) (s : Nat × Nat) : Nat × Nat := mFd T 15 1 999 (zP2 T s)
def zP4 (T : Tx) (s : Nat × Nat) : Nat × Nat := mFd T 16 0 1000 (zP3 T s)
def zP5 (T : Tx) (s : Nat × Nat) : Nat × Nat := mPz T 17 0 100 (zP4 T s)
def zP6 (T : Tx) (s : Nat × Nat) : Nat × Nat := mPz T 18 0 100 (zP5 T s)
def vPs (T : Tx) (s : Nat × Nat) : List Int32 := [vFd T s, vFd T (zP1 T s), vFd T (zP2 T s), vFd T (zP3 T s), vPz T 17 0 (zP4 T s), vPz T 18 0 (zP5 T s)]
theorem zP1_0 {T : Tx} {s : Nat × Nat} (h : (zP1 T s).1 = 0) : s.1 = 0 := (mFd_0 h).1
theorem zP2_0 {T : Tx} {s : Nat × Nat} (h : (zP2 T s).1 = 0) : (zP1 T s).1 = 0 := (mFd_0 h).1
theorem zP3_0 {T : Tx} {s : Nat × Nat} (h : (zP3 T s).1 = 0) : (zP2 T s).1 = 0 := (mFd_0 h).1
theorem zP4_0 {T : Tx} {s : Nat × Nat} (h : (zP4 T s).1 = 0) : (zP3 T s).1 = 0 := (mFd_0 h).1
theorem zP5_0 {T : Tx} {s : Nat × Nat} (h : (zP5 T s).1 = 0) : (zP4 T s).1 = 0 := mPz_s h
theorem zP6_0 {T : Tx} {s : Nat × Nat} (h : (zP6 T s).1 = 0) : (zP5 T s).1 = 0 := mPz_s h
def zS1 (T : Tx) (s : Nat × Nat) : Nat × Nat := mFd T 5 0 999 s
def zS2 (T : Tx) (s : Nat × Nat) : Nat × Nat := mPz T 6 0 2000 (zS1 T s)
def zS3 (T : Tx) (s : Nat × Nat) : Nat × Nat := mEi T 20 21 (zS2 T s)
def zS4 (T : Tx) (s : Nat × Nat) : Nat × Nat := mEi T 22 23 (zS3 T s)
def zS5 (T : Tx) (s : Nat × Nat) : Nat × Nat := mCo T 9 (zS4 T s)
def zS6 (T : Tx) (s : Nat × Nat) : Nat × Nat := mPz T 10 0 600 (zS5 T s)
def vSs (T : Tx) (s : Nat × Nat) : List Int32 := [vFd T s, vPz T 6 0 (zS1 T s), vEi T 20 21 (zS2 T s), vEi T 22 23 (zS3 T s), vIf T 9 (zS4 T s), vPz T 10 60 (zS5 T s)]
theorem zS1_0 {T : Tx} {s : Nat × Nat} (h : (zS1 T s).1 = 0) : s.1 = 0 := (mFd_0 h).1
theorem zS2_0 {T : Tx} {s : Nat × Nat} (h : (zS2 T s).1 = 0) : (zS1 T s).1 = 0 := mPz_s h
theorem zS3_0 {T : Tx} {s : Nat × Nat} (h : (zS3 T s).1 = 0) : (zS2 T s).1 = 0 := mEi_0 h
theorem zS4_0 {T : Tx} {s : Nat × Nat} (h : (zS4 T s).1 = 0) : (zS3 T s).1 = 0 := mEi_0 h
theorem zS5_0 {T : Tx} {s : Nat × Nat} (h : (zS5 T s).1 = 0) : (zS4 T s).1 = 0 := mCo_0 h
theorem zS6_0 {T : Tx} {s : Nat × Nat} (h : (zS6 T s).1 = 0) : (zS5 T s).1 = 0 := mPz_s h
def zL1 (T : Tx) (s : Nat × Nat) : Nat × Nat := mNeed T (decide (0 ≤ mWh T s [25, 26, 18])) s
def zL2 (T : Tx) (s : Nat × Nat) : Nat × Nat := mPz T 27 1 1000 (zL1 T s)
def zL3 (T : Tx) (s : Nat × Nat) : Nat × Nat := mPz T 28 1 99 (zL2 T s)
def zL4 (T : Tx) (s : Nat × Nat) : Nat × Nat := mPz T 29 0 1000 (zL3 T s)
def zL5 (T : Tx) (s : Nat × Nat) : Nat × Nat := mPz T 30 0 1000 (zL4 T s)
def vLs (T : Tx) (s : Nat × Nat) : List Int32 := [mWh T s [25, 26, 18], vPz T 27 300 (zL1 T s), vPz T 28 20 (zL2 T s), vPz T 29 100 (zL3 T s), vPz T 30 300 (zL4 T s)]
theorem zL1_0 {T : Tx} {s : Nat × Nat} (h : (zL1 T s).1 = 0) : s.1 = 0 := (mNeed_0 h).1
theorem zL2_0 {T : Tx} {s : Nat × Nat} (h : (zL2 T s).1 = 0) : (zL1 T s).1 = 0 := mPz_s h
theorem zL3_0 {T : Tx} {s : Nat × Nat} (h : (zL3 T s).1 = 0) : (zL2 T s).1 = 0 := mPz_s h
theorem zL4_0 {T : Tx} {s : Nat × Nat} (h : (zL4 T s).1 = 0) : (zL3 T s).1 = 0 := mPz_s h
theorem zL5_0 {T : Tx} {s : Nat × Nat} (h : (zL5 T s).1 = 0) : (zL4 T s).1 = 0 := mPz_s h
section PClC
variable {G : Nat × (Nat → Int32)} {d : Nat} {σ : aH} {T : Tx} {s : Nat × Nat}
theorem s_tellPw {n w : Nat} {x1 x2 v : Int32} (h1 : x1 = Int32.ofNat 0) (h2 : x2 = Int32.ofNat w) (hw : w < 6) (hn : n < 20) (e8 : σ.1 8 0 = Int32.ofNat n) : Rn G (d + 2) 37 [.ref 7, .int x1, .int x2, .int v] σ = oV (aSI σ 9 ((6 * n) + w) v) := by
  rw [s_tellN (k := 0) (n := n) (w := w) h1 (by decide) e8 h2 (by show 0 + n * 6 + w < 286; omega), show pFst 0 + n * pWid 0 + w = (6 * n) + w from by show 0 + n * 6 + w = _; omega]
theorem c_clP (q : CS σ T s) {n : Nat} (hn : n < 20) (e8 : σ.1 8 0 = Int32.ofNat n) : ∃ b L, Rn G (d + 10) 33 [.ref 1, .ref 7] σ = oV b ∧ L.length = 6 ∧ rowC [1] 9 (6 * n) σ b L ∧ CS b T (zP6 T s) ∧ ((zP6 T s).1 = 0 → L = vPs T s) := by
  rw [e_Rh_HouseReader_readPerson]
  obtain ⟨v0, b0, e0, f0, g0, h0⟩ := s_takeField (G := G) (d := d) (x := 13) so_74 (by decide) q 1 99
  rw [e0, pCI, s_tellPw (x1 := 0) (x2 := 0) (w := 0) rfl rfl (by decide) hn ((congrFun (f0.at (by decide)) 0).trans e8), pCV]
  have r0 : rowC [1] 9 (6 * n) σ (aSI b0 9 ((6 * n) + 0) v0) [v0] := (rowC.nil (σ := σ) (fr := [1]) (o := 9) (base := (6 * n))).step f0 (by decide) v0
  have q0 : CS (aSI b0 9 ((6 * n) + 0) v0) T (zP1 T s) := CS.ps (os := [9]) g0 (pSame.rfl'.si (by decide)) (by decide) (by decide)
  have t0 : (aSI b0 9 ((6 * n) + 0) v0).1 8 0 = Int32.ofNat n := (congrFun (r0.1.at (by decide)) 0).trans e8
  obtain ⟨v1, b1, e1, f1, g1, h1⟩ := s_takeField (G := G) (d := d) (x := 14) so_76 (by decide) q0 1 99
  rw [e1, pCI, s_tellPw (x1 := 0) (x2 := 1) (w := 1) rfl rfl (by decide) hn ((congrFun (f1.at (by decide)) 0).trans t0), pCV]
  have r1 : rowC [1] 9 (6 * n) σ (aSI b1 9 ((6 * n) + 1) v1) [v0, v1] := r0.step f1 (by decide) v1
  have q1 : CS (aSI b1 9 ((6 * n) + 1) v1) T (zP2 T s) := CS.ps (os := [9]) g1 (pSame.rfl'.si (by decide)) (by decide) (by decide)
  have t1 : (aSI b1 9 ((6 * n) + 1) v1).1 8 0 = Int32.ofNat n := (congrFun (r1.1.at (by decide)) 0).trans e8
  obtain ⟨v2, b2, e2, f2, g2, h2⟩ := s_takeField (G := G) (d := d) (x := 15) so_78 (by decide) q1 1 999
  rw [e2, pCI, s_tellPw (x1 := 0) (x2 := 2) (w := 2) rfl rfl (by decide) hn ((congrFun (f2.at (by decide)) 0).trans t1), pCV]
  have r2 : rowC [1] 9 (6 * n) σ (aSI b2 9 ((6 * n) + 2) v2) [v0, v1, v2] := r1.step f2 (by decide) v2
  have q2 : CS (aSI b2 9 ((6 * n) + 2) v2) T (zP3 T s) := CS.ps (os := [9]) g2 (pSame.rfl'.si (by decide)) (by decide) (by decide)
  have t2 : (aSI b2 9 ((6 * n) + 2) v2).1 8 0 = Int32.ofNat n := (congrFun (r2.1.at (by decide)) 0).trans e8
  obtain ⟨v3, b3, e3, f3, g3, h3⟩ := s_takeField (G := G) (d := d) (x := 16) so_80 (by decide) q2 0 1000
  rw [e3, pCI, s_tellPw (x1 := 0) (x2 := 3) (w := 3) rfl rfl (by decide) hn ((congrFun (f3.at (by decide)) 0).trans t2), pCV]
  have r3 : rowC [1] 9 (6 * n) σ (aSI b3 9 ((6 * n) + 3) v3) [v0, v1, v2, v3] := r2.step f3 (by decide) v3
  have q3 : CS (aSI b3 9 ((6 * n) + 3) v3) T (zP4 T s) := CS.ps (os := [9]) g3 (pSame.rfl'.si (by decide)) (by decide) (by decide)
  have t3 : (aSI b3 9 ((6 * n) + 3) v3).1 8 0 = Int32.ofNat n := (congrFun (r3.1.at (by decide)) 0).trans e8
  obtain ⟨v4, b4, e4, f4, g4, h4⟩ := s_takePh (G := G) (d := d) (x := 17) so_82 (by decide) q3 0 100 0
  rw [e4, pCI, s_tellPw (x1 := 0) (x2 := 4) (w := 4) rfl rfl (by decide) hn ((congrFun (f4.at (by decide)) 0).trans t3), pCV]
  have r4 : rowC [1] 9 (6 * n) σ (aSI b4 9 ((6 * n) + 4) v4) [v0, v1, v2, v3, v4] := r3.step f4 (by decide) v4
  have q4 : CS (aSI b4 9 ((6 * n) + 4) v4) T (zP5 T s) := CS.ps (os := [9]) g4 (pSame.rfl'.si (by decide)) (by decide) (by decide)
  have t4 : (aSI b4 9 ((6 * n) + 4) v4).1 8 0 = Int32.ofNat n := (congrFun (r4.1.at (by decide)) 0).trans e8
  obtain ⟨v5, b5, e5, f5, g5, h5⟩ := s_takePh (G := G) (d := d) (x := 18) so_84 (by decide) q4 0 100 0
  rw [e5, pCI, s_tellPw (x1 := 0) (x2 := 5) (w := 5) rfl rfl (by decide) hn ((congrFun (f5.at (by decide)) 0).trans t4), pCV]
  have r5 : rowC [1] 9 (6 * n) σ (aSI b5 9 ((6 * n) + 5) v5) [v0, v1, v2, v3, v4, v5] := r4.step f5 (by decide) v5
  have q5 : CS (aSI b5 9 ((6 * n) + 5) v5) T (zP6 T s) := CS.ps (os := [9]) g5 (pSame.rfl'.si (by decide)) (by decide) (by decide)
  have t5 : (aSI b5 9 ((6 * n) + 5) v5).1 8 0 = Int32.ofNat n := (congrFun (r5.1.at (by decide)) 0).trans e8
  refine ⟨_, [v0, v1, v2, v3, v4, v5], rfl, rfl, r5, q5, fun h6 => ?_⟩
  have y5 : (zP5 T s).1 = 0 := zP6_0 h6
  have y4 : (zP4 T s).1 = 0 := zP5_0 y5
  have y3 : (zP3 T s).1 = 0 := zP4_0 y4
  have y2 : (zP2 T s).1 = 0 := zP3_0 y3
  have y1 : (zP1 T s).1 = 0 := zP2_0 y2
  rw [h0 y1, h1 y2, h2 y3, h3 y4, h4 y5, h5 h6]
  rfl
theorem s_tellSw {n w : Nat} {x1 x2 v : Int32} (h1 : x1 = Int32.ofNat 1) (h2 : x2 = Int32.ofNat w) (hw : w < 6) (hn : n < 20) (e8 : σ.1 8 1 = Int32.ofNat n) : Rn G (d + 2) 37 [.ref 7, .int x1, .int x2, .int v] σ = oV (aSI σ 9 ((120 + 6 * n) + w) v) := by
  rw [s_tellN (k := 1) (n := n) (w := w) h1 (by decide) e8 h2 (by show 120 + n * 6 + w < 286; omega), show pFst 1 + n * pWid 1 + w = (120 + 6 * n) + w from by show 120 + n * 6 + w = _; omega]
theorem c_clS (q : CS σ T s) {n : Nat} (hn : n < 20) (e8 : σ.1 8 1 = Int32.ofNat n) : ∃ b L, Rn G (d + 10) 40 [.ref 1, .ref 7] σ = oV b ∧ L.length = 6 ∧ rowC [1] 9 (120 + 6 * n) σ b L ∧ CS b T (zS6 T s) ∧ ((zS6 T s).1 = 0 → L = vSs T s) := by
  rw [e_Rh_HouseReader_readSitting]
  obtain ⟨v0, b0, e0, f0, g0, h0⟩ := s_takeField (G := G) (d := d) (x := 5) so_86 (by decide) q 0 999
  rw [e0, pCI, s_tellSw (x1 := 1) (x2 := 0) (w := 0) rfl rfl (by decide) hn ((congrFun (f0.at (by decide)) 1).trans e8), pCV]
  have r0 : rowC [1] 9 (120 + 6 * n) σ (aSI b0 9 ((120 + 6 * n) + 0) v0) [v0] := (rowC.nil (σ := σ) (fr := [1]) (o := 9) (base := (120 + 6 * n))).step f0 (by decide) v0
  have q0 : CS (aSI b0 9 ((120 + 6 * n) + 0) v0) T (zS1 T s) := CS.ps (os := [9]) g0 (pSame.rfl'.si (by decide)) (by decide) (by decide)
  have t0 : (aSI b0 9 ((120 + 6 * n) + 0) v0).1 8 1 = Int32.ofNat n := (congrFun (r0.1.at (by decide)) 1).trans e8
  obtain ⟨v1, b1, e1, f1, g1, h1⟩ := s_takePh (G := G) (d := d) (x := 6) so_88 (by decide) q0 0 2000 0
  rw [e1, pCI, s_tellSw (x1 := 1) (x2 := 1) (w := 1) rfl rfl (by decide) hn ((congrFun (f1.at (by decide)) 1).trans t0), pCV]
  have r1 : rowC [1] 9 (120 + 6 * n) σ (aSI b1 9 ((120 + 6 * n) + 1) v1) [v0, v1] := r0.step f1 (by decide) v1
  have q1 : CS (aSI b1 9 ((120 + 6 * n) + 1) v1) T (zS2 T s) := CS.ps (os := [9]) g1 (pSame.rfl'.si (by decide)) (by decide) (by decide)
  have t1 : (aSI b1 9 ((120 + 6 * n) + 1) v1).1 8 1 = Int32.ofNat n := (congrFun (r1.1.at (by decide)) 1).trans e8
  obtain ⟨v2, b2, e2, f2, g2, h2⟩ := s_takeEi (G := G) (d := d + 1) (x := 20) (y := 21) so_90 (by decide) (by decide) q1
  rw [e2, pCI, s_tellSw (x1 := 1) (x2 := 2) (w := 2) rfl rfl (by decide) hn ((congrFun (f2.at (by decide)) 1).trans t1), pCV]
  have r2 : rowC [1] 9 (120 + 6 * n) σ (aSI b2 9 ((120 + 6 * n) + 2) v2) [v0, v1, v2] := r1.step f2 (by decide) v2
  have q2 : CS (aSI b2 9 ((120 + 6 * n) + 2) v2) T (zS3 T s) := CS.ps (os := [9]) g2 (pSame.rfl'.si (by decide)) (by decide) (by decide)
  have t2 : (aSI b2 9 ((120 + 6 * n) + 2) v2).1 8 1 = Int32.ofNat n := (congrFun (r2.1.at (by decide)) 1).trans e8
  obtain ⟨v3, b3, e3, f3, g3, h3⟩ := s_takeEi (G := G) (d := d + 1) (x := 22) (y := 23) so_92 (by decide) (by decide) q2
  rw [e3, pCI, s_tellSw (x1 := 1) (x2 := 3) (w := 3) rfl rfl (by decide) hn ((congrFun (f3.at (by decide)) 1).trans t2), pCV]
  have r3 : rowC [1] 9 (120 + 6 * n) σ (aSI b3 9 ((120 + 6 * n) + 3) v3) [v0, v1, v2, v3] := r2.step f3 (by decide) v3
  have q3 : CS (aSI b3 9 ((120 + 6 * n) + 3) v3) T (zS4 T s) := CS.ps (os := [9]) g3 (pSame.rfl'.si (by decide)) (by decide) (by decide)
  have t3 : (aSI b3 9 ((120 + 6 * n) + 3) v3).1 8 1 = Int32.ofNat n := (congrFun (r3.1.at (by decide)) 1).trans e8
  obtain ⟨b4, e4, f4, g4⟩ := s_takeIf (G := G) (d := d + 1) (x := 9) so_94 (by decide) q3
  rw [e4, pCI]
  by_cases hc : (zS4 T s).1 = 0 ∧ tW T (zS4 T s) 9 = true
  · obtain ⟨v4, w4⟩ : ∃ v : Int32, v = 1 := ⟨_, rfl⟩
    have h4 : (zS4 T s).1 = 0 → v4 = vIf T 9 (zS4 T s) := fun h => by
      rw [w4]
      exact (if_pos hc.2).symm
    rw [if_pos hc, if_neg (by decide)]
    have tl : Rn G (d + 9) 37 [.ref 7, .int 1, .int 4, .int 1] b4 = oV (aSI b4 9 ((120 + 6 * n) + 4) v4) := by
      rw [w4]
      exact s_tellSw (x1 := 1) (x2 := 4) (d := d + 7) (w := 4) rfl rfl (by decide) hn ((congrFun (f4.at (by decide)) 1).trans t3)
    rw [tl, pCV]
    have r4 : rowC [1] 9 (120 + 6 * n) σ (aSI b4 9 ((120 + 6 * n) + 4) v4) [v0, v1, v2, v3, v4] := r3.step f4 (by decide) v4
    have q4 : CS (aSI b4 9 ((120 + 6 * n) + 4) v4) T (zS5 T s) := CS.ps (os := [9]) g4 (pSame.rfl'.si (by decide)) (by decide) (by decide)
    have t4 : (aSI b4 9 ((120 + 6 * n) + 4) v4).1 8 1 = Int32.ofNat n := (congrFun (r4.1.at (by decide)) 1).trans e8
    obtain ⟨v5, b5, e5, f5, g5, h5⟩ := s_takePh (G := G) (d := d) (x := 10) so_96 (by decide) q4 0 600 60
    rw [e5, pCI, s_tellSw (x1 := 1) (x2 := 5) (w := 5) rfl rfl (by decide) hn ((congrFun (f5.at (by decide)) 1).trans t4), pCV]
    have r5 : rowC [1] 9 (120 + 6 * n) σ (aSI b5 9 ((120 + 6 * n) + 5) v5) [v0, v1, v2, v3, v4, v5] := r4.step f5 (by decide) v5
    have q5 : CS (aSI b5 9 ((120 + 6 * n) + 5) v5) T (zS6 T s) := CS.ps (os := [9]) g5 (pSame.rfl'.si (by decide)) (by decide) (by decide)
    have t5 : (aSI b5 9 ((120 + 6 * n) + 5) v5).1 8 1 = Int32.ofNat n := (congrFun (r5.1.at (by decide)) 1).trans e8
    refine ⟨_, [v0, v1, v2, v3, v4, v5], rfl, rfl, r5, q5, fun h6 => ?_⟩
    have y5 : (zS5 T s).1 = 0 := zS6_0 h6
    have y4 : (zS4 T s).1 = 0 := zS5_0 y5
    have y3 : (zS3 T s).1 = 0 := zS4_0 y4
    have y2 : (zS2 T s).1 = 0 := zS3_0 y3
    have y1 : (zS1 T s).1 = 0 := zS2_0 y2
    rw [h0 y1, h1 y2, h2 y3, h3 y4, h4 y4, h5 h6]
    rfl
  · obtain ⟨v4, w4⟩ : ∃ v : Int32, v = 0 := ⟨_, rfl⟩
    have h4 : (zS4 T s).1 = 0 → v4 = vIf T 9 (zS4 T s) := fun h => by
      rw [w4]
      exact (if_neg fun e => hc ⟨h, e⟩).symm
    rw [if_neg hc, if_pos rfl]
    have tl : Rn G (d + 9) 37 [.ref 7, .int 1, .int 4, .int 0] b4 = oV (aSI b4 9 ((120 + 6 * n) + 4) v4) := by
      rw [w4]
      exact s_tellSw (x1 := 1) (x2 := 4) (d := d + 7) (w := 4) rfl rfl (by decide) hn ((congrFun (f4.at (by decide)) 1).trans t3)
    rw [tl, pCV]
    have r4 : rowC [1] 9 (120 + 6 * n) σ (aSI b4 9 ((120 + 6 * n) + 4) v4) [v0, v1, v2, v3, v4] := r3.step f4 (by decide) v4
    have q4 : CS (aSI b4 9 ((120 + 6 * n) + 4) v4) T (zS5 T s) := CS.ps (os := [9]) g4 (pSame.rfl'.si (by decide)) (by decide) (by decide)
    have t4 : (aSI b4 9 ((120 + 6 * n) + 4) v4).1 8 1 = Int32.ofNat n := (congrFun (r4.1.at (by decide)) 1).trans e8
    obtain ⟨v5, b5, e5, f5, g5, h5⟩ := s_takePh (G := G) (d := d) (x := 10) so_96 (by decide) q4 0 600 60
    rw [e5, pCI, s_tellSw (x1 := 1) (x2 := 5) (w := 5) rfl rfl (by decide) hn ((congrFun (f5.at (by decide)) 1).trans t4), pCV]
    have r5 : rowC [1] 9 (120 + 6 * n) σ (aSI b5 9 ((120 + 6 * n) + 5) v5) [v0, v1, v2, v3, v4, v5] := r4.step f5 (by decide) v5
    have q5 : CS (aSI b5 9 ((120 + 6 * n) + 5) v5) T (zS6 T s) := CS.ps (os := [9]) g5 (pSame.rfl'.si (by decide)) (by decide) (by decide)
    have t5 : (aSI b5 9 ((120 + 6 * n) + 5) v5).1 8 1 = Int32.ofNat n := (congrFun (r5.1.at (by decide)) 1).trans e8
    refine ⟨_, [v0, v1, v2, v3, v4, v5], rfl, rfl, r5, q5, fun h6 => ?_⟩
    have y5 : (zS5 T s).1 = 0 := zS6_0 h6
    have y4 : (zS4 T s).1 = 0 := zS5_0 y5
    have y3 : (zS3 T s).1 = 0 := zS4_0 y4
    have y2 : (zS2 T s).1 = 0 := zS3_0 y3
    have y1 : (zS1 T s).1 = 0 := zS2_0 y2
    rw [h0 y1, h1 y2, h2 y3, h3 y4, h4 y4, h5 h6]
    rfl
theorem s_tellLw {n w : Nat} {x1 x2 v : Int32} (h1 : x1 = Int32.ofNat 2) (h2 : x2 = Int32.ofNat w) (hw : w < 5) (hn : n < 6) (e8 : σ.1 8 2 = Int32.ofNat n) : Rn G (d + 2) 37 [.ref 7, .int x1, .int x2, .int v] σ = oV (aSI σ 9 ((240 + 5 * n) + w) v) := by
  rw [s_tellN (k := 2) (n := n) (w := w) h1 (by decide) e8 h2 (by show 240 + n * 5 + w < 286; omega), show pFst 2 + n * pWid 2 + w = (240 + 5 * n) + w from by show 240 + n * 5 + w = _; omega]
theorem c_clL (q : CS σ T s) {n : Nat} (hn : n < 6) (e8 : σ.1 8 2 = Int32.ofNat n) : ∃ b L, Rn G (d + 10) 42 [.ref 1, .ref 7] σ = oV b ∧ L.length = 5 ∧ rowC [1] 9 (240 + 5 * n) σ b L ∧ CS b T (zL5 T s) ∧ ((zL5 T s).1 = 0 → L = vLs T s) := by
  rw [e_Rh_HouseReader_readLaw]
  obtain ⟨b0, e0, f0, g0⟩ := s_takeAm (G := G) (d := d + 1) (xs := [25, 26, 18]) so_98 (List.cons_ne_nil _ _) (by decide) q
  obtain ⟨v0, h0⟩ : ∃ v, v = mWh T s [25, 26, 18] := ⟨_, rfl⟩
  rw [e0, pCI, ← h0, s_tellLw (x1 := 2) (x2 := 0) (w := 0) rfl rfl (by decide) hn ((congrFun (f0.at (by decide)) 2).trans e8), pCV]
  have r0 : rowC [1] 9 (240 + 5 * n) σ (aSI b0 9 ((240 + 5 * n) + 0) v0) [v0] := (rowC.nil (σ := σ) (fr := [1]) (o := 9) (base := (240 + 5 * n))).step f0 (by decide) v0
  have q0 : CS (aSI b0 9 ((240 + 5 * n) + 0) v0) T (zL1 T s) := CS.ps (os := [9]) g0 (pSame.rfl'.si (by decide)) (by decide) (by decide)
  have t0 : (aSI b0 9 ((240 + 5 * n) + 0) v0).1 8 2 = Int32.ofNat n := (congrFun (r0.1.at (by decide)) 2).trans e8
  obtain ⟨v1, b1, e1, f1, g1, h1⟩ := s_takePh (G := G) (d := d) (x := 27) so_100 (by decide) q0 1 1000 300
  rw [e1, pCI, s_tellLw (x1 := 2) (x2 := 1) (w := 1) rfl rfl (by decide) hn ((congrFun (f1.at (by decide)) 2).trans t0), pCV]
  have r1 : rowC [1] 9 (240 + 5 * n) σ (aSI b1 9 ((240 + 5 * n) + 1) v1) [v0, v1] := r0.step f1 (by decide) v1
  have q1 : CS (aSI b1 9 ((240 + 5 * n) + 1) v1) T (zL2 T s) := CS.ps (os := [9]) g1 (pSame.rfl'.si (by decide)) (by decide) (by decide)
  have t1 : (aSI b1 9 ((240 + 5 * n) + 1) v1).1 8 2 = Int32.ofNat n := (congrFun (r1.1.at (by decide)) 2).trans e8
  obtain ⟨v2, b2, e2, f2, g2, h2⟩ := s_takePh (G := G) (d := d) (x := 28) so_102 (by decide) q1 1 99 20
  rw [e2, pCI, s_tellLw (x1 := 2) (x2 := 2) (w := 2) rfl rfl (by decide) hn ((congrFun (f2.at (by decide)) 2).trans t1), pCV]
  have r2 : rowC [1] 9 (240 + 5 * n) σ (aSI b2 9 ((240 + 5 * n) + 2) v2) [v0, v1, v2] := r1.step f2 (by decide) v2
  have q2 : CS (aSI b2 9 ((240 + 5 * n) + 2) v2) T (zL3 T s) := CS.ps (os := [9]) g2 (pSame.rfl'.si (by decide)) (by decide) (by decide)
  have t2 : (aSI b2 9 ((240 + 5 * n) + 2) v2).1 8 2 = Int32.ofNat n := (congrFun (r2.1.at (by decide)) 2).trans e8
  obtain ⟨v3, b3, e3, f3, g3, h3⟩ := s_takePh (G := G) (d := d) (x := 29) so_104 (by decide) q2 0 1000 100
  rw [e3, pCI, s_tellLw (x1 := 2) (x2 := 3) (w := 3) rfl rfl (by decide) hn ((congrFun (f3.at (by decide)) 2).trans t2), pCV]
  have r3 : rowC [1] 9 (240 + 5 * n) σ (aSI b3 9 ((240 + 5 * n) + 3) v3) [v0, v1, v2, v3] := r2.step f3 (by decide) v3
  have q3 : CS (aSI b3 9 ((240 + 5 * n) + 3) v3) T (zL4 T s) := CS.ps (os := [9]) g3 (pSame.rfl'.si (by decide)) (by decide) (by decide)
  have t3 : (aSI b3 9 ((240 + 5 * n) + 3) v3).1 8 2 = Int32.ofNat n := (congrFun (r3.1.at (by decide)) 2).trans e8
  obtain ⟨v4, b4, e4, f4, g4, h4⟩ := s_takePh (G := G) (d := d) (x := 30) so_106 (by decide) q3 0 1000 300
  rw [e4, pCI, s_tellLw (x1 := 2) (x2 := 4) (w := 4) rfl rfl (by decide) hn ((congrFun (f4.at (by decide)) 2).trans t3), pCV]
  have r4 : rowC [1] 9 (240 + 5 * n) σ (aSI b4 9 ((240 + 5 * n) + 4) v4) [v0, v1, v2, v3, v4] := r3.step f4 (by decide) v4
  have q4 : CS (aSI b4 9 ((240 + 5 * n) + 4) v4) T (zL5 T s) := CS.ps (os := [9]) g4 (pSame.rfl'.si (by decide)) (by decide) (by decide)
  have t4 : (aSI b4 9 ((240 + 5 * n) + 4) v4).1 8 2 = Int32.ofNat n := (congrFun (r4.1.at (by decide)) 2).trans e8
  refine ⟨_, [v0, v1, v2, v3, v4], rfl, rfl, r4, q4, fun h5 => ?_⟩
  have y4 : (zL4 T s).1 = 0 := zL5_0 h5
  have y3 : (zL3 T s).1 = 0 := zL4_0 y4
  have y2 : (zL2 T s).1 = 0 := zL3_0 y3
  have y1 : (zL1 T s).1 = 0 := zL2_0 y2
  rw [h0, h1 y2, h2 y3, h3 y4, h4 h5]
  rfl
end PClC
