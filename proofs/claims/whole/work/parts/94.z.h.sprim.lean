/-! ===== what a sheet takes: one of so many; a number with or without less ===== -/
def mOf (T : Tx) (many : Int32) (s : Nat × Nat) : Nat × Nat := if s.1 = 0 then (if tK T s.2 = 2 then (if 9999 < tN T s.2 then (2, s.2) else if tN T s.2 < many then (0, tE T s.2) else (4, s.2)) else (1, s.2)) else s
def mSg (T : Tx) (most : Int32) (s : Nat × Nat) : Nat × Nat := mNumS T 0 most (mCo T 37 s)
def vSg (T : Tx) (s : Nat × Nat) : Int32 := if tW T s 37 = true then -(vFd T s) else tN T s.2
section PSPrim
variable {G : Nat × (Nat → Int32)} {d : Nat} {σ : aH} {T : Tx} {s : Nat × Nat}
theorem mOf_b {many : Int32} (h : ¬ s.1 = 0) : mOf T many s = s := if_neg h
theorem mOf_0 {many : Int32} (h : (mOf T many s).1 = 0) : s.1 = 0 ∧ tK T s.2 = 2 ∧ tN T s.2 < many ∧ mOf T many s = (0, tE T s.2) ∧ ∃ n, n < 10000 ∧ tN T s.2 = Int32.ofNat n := by
  unfold mOf at h ⊢
  by_cases h0 : s.1 = 0
  · rw [if_pos h0] at h ⊢
    by_cases k2 : tK T s.2 = 2
    · rw [if_pos k2] at h ⊢
      by_cases h9 : 9999 < tN T s.2
      · rw [if_pos h9] at h
        exact absurd (show (2 : Nat) = 0 from h) (by decide)
      · rw [if_neg h9] at h ⊢
        by_cases hm : tN T s.2 < many
        · rw [if_pos hm]
          exact ⟨h0, k2, hm, rfl, (tN_nat k2).1 ((tN_nat k2).2.mp (pNotLt.mp h9))⟩
        · rw [if_neg hm] at h
          exact absurd (show (4 : Nat) = 0 from h) (by decide)
    · rw [if_neg k2] at h
      exact absurd (show (1 : Nat) = 0 from h) (by decide)
  · rw [if_neg h0] at h
    exact absurd h h0
theorem s_takeOf (q : CS σ T s) (many : Int32) : ∃ v b, Rn G (d + 9) 99 [.ref 1, .int many] σ = oI v b ∧ pSame [1] σ b ∧ CS b T (mOf T many s) ∧ ((mOf T many s).1 = 0 → v = tN T s.2) := by
  have k5 : tK T s.2 < 5 := tKq_lt T (tQ T s.2)
  have e4 : σ.1 1 4 = Int32.ofNat (tK T s.2) := q.2.2.2.2.2.1
  obtain ⟨v, b, e, f, g, hv⟩ := s_takeNum (G := G) (d := d) q 0 9999
  rw [e_Rh_Tape_takeOneOf, e4]
  by_cases k2 : tK T s.2 = 2
  · have e5 : σ.1 1 5 = tN T s.2 := q.2.2.2.2.2.2.2 k2
    rw [if_pos (by rw [k2]; rfl), e5]
    by_cases h9 : 9999 < tN T s.2
    · have em : mNumS T 0 9999 s = mOf T many s := by
        unfold mNumS mOf
        by_cases h0 : s.1 = 0
        · rw [if_pos h0, if_pos h0, if_pos k2, if_pos k2, if_pos h9, if_neg (fun h => absurd h9 (pNotLt.mpr h.2))]
        · rw [if_neg h0, if_neg h0]
      rw [em] at g hv
      rw [if_pos h9, e, pCI]
      exact ⟨v, b, rfl, f, g, hv⟩
    · have h4 := (tN_nat k2).2.mp (pNotLt.mp h9)
      obtain ⟨n, hn, en⟩ := (tN_nat k2).1 h4
      have n0 : 0 ≤ tN T s.2 := by rw [en]; exact pN_0 (by omega)
      rw [if_neg h9]
      by_cases hm : tN T s.2 < many
      · have em : mNumS T 0 9999 s = mOf T many s := by
          unfold mNumS mOf
          by_cases h0 : s.1 = 0
          · rw [if_pos h0, if_pos h0, if_pos k2, if_pos k2, if_neg h9, if_pos hm, if_pos ⟨n0, pNotLt.mp h9⟩]
          · rw [if_neg h0, if_neg h0]
        rw [em] at g hv
        rw [if_pos hm, e, pCI]
        exact ⟨v, b, rfl, f, g, hv⟩
      · obtain ⟨a, e1, f1, g1⟩ := s_fail (G := G) (d := d + 7) q (x := 4) (c := 4) rfl (by decide)
        obtain ⟨w, b, e, f, g, hw⟩ := s_takeNum (G := G) (d := d) g1 0 9999
        have nb : ¬ (mFail 4 s).1 = 0 := by
          unfold mFail
          by_cases h0 : s.1 = 0
          · rw [if_pos h0]
            exact (by decide : ¬ (4 : Nat) = 0)
          · rw [if_neg h0]
            exact h0
        have em : mNumS T 0 9999 (mFail 4 s) = mOf T many s := by
          rw [mNumS_b nb]
          unfold mFail mOf
          by_cases h0 : s.1 = 0
          · rw [if_pos h0, if_pos h0, if_pos k2, if_neg h9, if_neg hm]
          · rw [if_neg h0, if_neg h0]
        have nm : ¬ (mOf T many s).1 = 0 := by
          rw [← em, mNumS_b nb]
          exact nb
        rw [em] at g
        rw [if_neg hm, e1, pCV, e, pCI]
        exact ⟨w, b, rfl, f1.trans f, g, fun h => absurd h nm⟩
  · have em : mNumS T 0 9999 s = mOf T many s := by
      unfold mNumS mOf
      by_cases h0 : s.1 = 0
      · rw [if_pos h0, if_pos h0, if_neg k2, if_neg k2]
      · rw [if_neg h0, if_neg h0]
    rw [em] at g hv
    rw [if_neg (fun h => k2 ((pEqL (c := 2) (n := 2) rfl (by decide) (by omega)).mp h)), e, pCI]
    exact ⟨v, b, rfl, f, g, hv⟩
theorem s_amongR (q : RS σ T s) (many : Int32) : ∃ v b, Rn G (d + 3) 108 [.ref 33, .int many] σ = oI v b ∧ rFr σ b ∧ RS b T (mOf T many s) ∧ ((mOf T many s).1 = 0 → v = tN T s.2) := by
  have q6 := q.2.2.2.2.2
  have q4 := q.2.2.2.1
  have q2 := q.1.2.1
  have lQ := tQ_le q4
  have lE := tEq_le lQ.2
  have k5 : tK T s.2 < 5 := tKq_lt T (tQ T s.2)
  have e20 : σ.1 33 20 = Int32.ofNat (tK T s.2) := q6.2.1
  have e22 : σ.1 33 22 = Int32.ofNat (tEq T (tQ T s.2) - tQ T s.2) := q6.2.2.2.1
  rw [e_Md_among, s_good (d := d + 1) q, pCI, pB0]
  by_cases h0 : s.1 = 0
  · rw [if_pos h0, e20]
    by_cases k2 : tK T s.2 = 2
    · rw [if_pos (show Int32.ofNat (tK T s.2) = 2 by rw [k2]; rfl), e22]
      by_cases h4 : tEq T (tQ T s.2) - tQ T s.2 ≤ 4
      · have h9 : ¬ 9999 < tN T s.2 := pNotLt.mpr ((tN_nat k2).2.mpr h4)
        have e23 : σ.1 33 23 = tN T s.2 := q6.2.2.2.2.2.1 k2 h4
        rw [if_pos (show Int32.ofNat (tEq T (tQ T s.2) - tQ T s.2) ≤ 4 from (pN_le (b := 4) (by omega) (by decide)).mpr h4), e23]
        by_cases hm : tN T s.2 < many
        · obtain ⟨a, e, f, g⟩ := s_goes (G := G) (d := d) q h0
          rw [if_pos hm, s_good (d := d + 1) q, pCI, pB0, if_pos h0, e, pCV, show mOf T many s = (0, tE T s.2) from (((if_pos h0).trans (if_pos k2)).trans (if_neg h9)).trans (if_pos hm)]
          exact ⟨_, a, rfl, f, g, fun _ => rfl⟩
        · obtain ⟨v, a, r, f, g⟩ := s_badNum (G := G) (d := d) (x := 4) (c := 4) rfl (by decide) (by decide) q h0
          rw [if_neg hm, show mOf T many s = (4, s.2) from (((if_pos h0).trans (if_pos k2)).trans (if_neg h9)).trans (if_neg hm)]
          exact ⟨v, a, r, f, g, fun h => absurd (show (4 : Nat) = 0 from h) (by decide)⟩
      · have h9 : 9999 < tN T s.2 := pNotLe.mp fun h => h4 ((tN_nat k2).2.mp h)
        obtain ⟨v, a, r, f, g⟩ := s_badNum (G := G) (d := d) (x := 2) (c := 2) rfl (by decide) (by decide) q h0
        rw [if_neg (fun h : Int32.ofNat (tEq T (tQ T s.2) - tQ T s.2) ≤ 4 => h4 ((pN_le (b := 4) (by omega) (by decide)).mp h)), show mOf T many s = (2, s.2) from ((if_pos h0).trans (if_pos k2)).trans (if_pos h9)]
        exact ⟨v, a, r, f, g, fun h => absurd (show (2 : Nat) = 0 from h) (by decide)⟩
    · obtain ⟨v, a, r, f, g⟩ := s_badNum (G := G) (d := d) (x := 1) (c := 1) rfl (by decide) (by decide) q h0
      rw [if_neg (fun h => k2 ((pEqL (c := 2) (n := 2) rfl (by decide) (by omega)).mp h)), show mOf T many s = (1, s.2) from (if_pos h0).trans (if_neg k2)]
      exact ⟨v, a, r, f, g, fun h => absurd (show (1 : Nat) = 0 from h) (by decide)⟩
  · rw [if_neg h0, mOf_b h0]
    exact ⟨_, σ, rfl, rFr.rfl', q, fun h => absurd h h0⟩
theorem vSg_of {most : Int32} (h : (mSg T most s).1 = 0) : s.1 = 0 ∧ tN T (mCo T 37 s).2 = (if tW T s 37 = true then vFd T s else tN T s.2) := by
  have h0 := mCo_0 (mNumS_0 h).1
  refine ⟨h0, ?_⟩
  unfold mCo
  by_cases hw : tW T s 37 = true
  · rw [if_pos ⟨h0, hw⟩, if_pos hw]
    rfl
  · rw [if_neg (fun e => hw e.2), if_neg hw]
theorem s_takeSg (q : CS σ T s) (most : Int32) : ∃ v b, Rn G (d + 9) 105 [.ref 1, .int most] σ = oI v b ∧ pSame [1] σ b ∧ CS b T (mSg T most s) ∧ ((mSg T most s).1 = 0 → v = vSg T s) := by
  obtain ⟨a, e1, f1, g1⟩ := s_takeIf (G := G) (d := d) (r := 128) (x := 37) so_128 (by decide) q
  have g1 : CS a T (mCo T 37 s) := g1
  obtain ⟨v, b, e2, f2, g2, hv⟩ := s_takeNum (G := G) (d := d) g1 0 most
  rw [e_Rh_Tape_takeSigned, e1, pCI, e2, pCI]
  by_cases hc : s.1 = 0 ∧ tW T s 37 = true
  · rw [if_pos hc, if_neg (by decide)]
    refine ⟨_, b, rfl, f1.trans f2, g2, fun h => ?_⟩
    unfold vSg
    rw [hv h, (vSg_of h).2, if_pos hc.2, if_pos hc.2]
  · rw [if_neg hc, if_pos rfl]
    refine ⟨_, b, rfl, f1.trans f2, g2, fun h => ?_⟩
    have nw : ¬ tW T s 37 = true := fun e => hc ⟨(vSg_of h).1, e⟩
    unfold vSg
    rw [hv h, (vSg_of h).2, if_neg nw, if_neg nw]
theorem s_signedR (q : RS σ T s) {most : Int32} (hm : most < 10000) : ∃ v b, Rn G (d + 5) 109 [.ref 33, .int most] σ = oI v b ∧ rFr σ b ∧ RS b T (mSg T most s) ∧ ((mSg T most s).1 = 0 → v = vSg T s) := by
  obtain ⟨a, e1, f1, g1⟩ := s_comesW (G := G) (d := d) q (x := 37) (c := 37) (by decide) rfl
  obtain ⟨v, b, e2, f2, g2, hv⟩ := s_number (G := G) (d := d + 1) (lo := 0) (hi := most) g1 hm
  rw [e_Md_signed, e1, pCI, e2, pCI]
  by_cases hc : s.1 = 0 ∧ tW T s 37 = true
  · rw [if_pos hc, if_neg (by decide)]
    refine ⟨_, b, rfl, f1.trans f2, g2, fun h => ?_⟩
    unfold vSg
    rw [hv h, (vSg_of h).2, if_pos hc.2, if_pos hc.2]
  · rw [if_neg hc, if_pos rfl]
    refine ⟨_, b, rfl, f1.trans f2, g2, fun h => ?_⟩
    have nw : ¬ tW T s 37 = true := fun e => hc ⟨(vSg_of h).1, e⟩
    unfold vSg
    rw [hv h, (vSg_of h).2, if_neg nw, if_neg nw]
end PSPrim
