/-! ===== what is taken: the reference ===== -/
section PRPrim
variable {G : Nat × (Nat → Int32)} {d : Nat} {σ : aH} {T : Tx} {s : Nat × Nat}
theorem mFail_need {T : Tx} {b : Bool} {s : Nat × Nat} (h : ¬ b = true) : mFail 1 s = mNeed T b s := by
  unfold mFail mNeed
  rw [if_neg h]
theorem s_need (q : RS σ T s) {b : Bool} : ∃ a, Rn G (d + 3) 75 [.ref 33, .int (bI b)] σ = oV a ∧ rFr σ a ∧ RS a T (mNeed T b s) := by
  rw [e_Md_need, s_good q, pCI, pB0]
  by_cases h0 : s.1 = 0
  · rw [if_pos h0]
    cases b with
    | true =>
      obtain ⟨a, e, f, g⟩ := s_goes (G := G) (d := d) q h0
      rw [if_neg (show ¬ bI true = 0 by decide), e, pCV]
      refine ⟨a, rfl, f, ?_⟩
      rw [show mNeed T true s = (0, tE T s.2) from (if_pos h0).trans (if_pos rfl)]
      exact g
    | false =>
      obtain ⟨a, e, f, g⟩ := s_wrong (G := G) (d := d + 1) q (x := 1) (c := 1) rfl (by decide) (by decide)
      rw [if_pos (show bI false = 0 from rfl), e, pCV, ← mFail_need (by decide)]
      exact ⟨a, rfl, f, g⟩
  · rw [if_neg h0, mNeed_b h0]
    exact ⟨σ, rfl, rFr.rfl', q⟩
/-- behind a fault a number isn't looked at -/
theorem s_badNum {c : Nat} {x : Int32} (hx : x = Int32.ofNat c) (hc : c < 5) (c0 : 0 < c) (q : RS σ T s) (h0 : s.1 = 0) : ∃ v a, (aCV (Rn G (d + 2) 73 [.ref 33, .int x] σ) fun σ3 => aCI (Rn G (d + 2) 67 [.ref 33] σ3) fun v5 σ4 => if v5 = 0 then oI (σ3.1 33 23) σ4 else aCV (Rn G (d + 2) 63 [.ref 33] σ4) fun σ6 => oI (σ3.1 33 23) σ6) = oI v a ∧ rFr σ a ∧ RS a T (c, s.2) := by
  obtain ⟨a, e, f, g⟩ := s_wrong (G := G) (d := d + 1) q hx hc c0
  rw [show mFail c s = (c, s.2) from if_pos h0] at g
  have nc : ¬ (c, s.2).1 = 0 := fun e => by have e : c = 0 := e; omega
  rw [e, pCV, s_good g, pCI, pB0, if_neg nc]
  exact ⟨_, a, rfl, f, g⟩
theorem tN_long {p : Nat} (h : ¬ tEq T (tQ T p) - tQ T p ≤ 4) : tN T p = 10000 := if_neg h
theorem s_number (q : RS σ T s) {lo hi : Int32} (hh : hi < 10000) : ∃ v a, Rn G (d + 3) 76 [.ref 33, .int lo, .int hi] σ = oI v a ∧ rFr σ a ∧ RS a T (mNumS T lo hi s) ∧ ((mNumS T lo hi s).1 = 0 → v = tN T s.2) := by
  have q6 := q.2.2.2.2.2
  have q4 := q.2.2.2.1
  have q2 := q.1.2.1
  have lQ := tQ_le q4
  have lE := tEq_le lQ.2
  have k5 : tK T s.2 < 5 := tKq_lt T (tQ T s.2)
  have e20 : σ.1 33 20 = Int32.ofNat (tK T s.2) := q6.2.1
  have e22 : σ.1 33 22 = Int32.ofNat (tEq T (tQ T s.2) - tQ T s.2) := q6.2.2.2.1
  rw [e_Md_number, s_good q, pCI, pB0]
  by_cases h0 : s.1 = 0
  · rw [if_pos h0, e20]
    by_cases k2 : tK T s.2 = 2
    · rw [if_pos (show Int32.ofNat (tK T s.2) = 2 by rw [k2]; rfl), e22]
      have two : ¬ (lo ≤ tN T s.2 ∧ tN T s.2 ≤ hi) → mNumS T lo hi s = (2, s.2) := fun h => ((if_pos h0).trans (if_pos k2)).trans (if_neg h)
      obtain ⟨v2, a2, r2, f2, g2⟩ := s_badNum (G := G) (d := d) (x := 2) (c := 2) rfl (by decide) (by decide) q h0
      by_cases h4 : tEq T (tQ T s.2) - tQ T s.2 ≤ 4
      · have e23 : σ.1 33 23 = tN T s.2 := q6.2.2.2.2.2.1 k2 h4
        rw [if_neg (fun h : (4 : Int32) < Int32.ofNat (tEq T (tQ T s.2) - tQ T s.2) => absurd ((pN_lt (a := 4) (by decide) (by omega)).mp h) (by omega)), e23]
        by_cases h1 : tN T s.2 < lo
        · have bad : ¬ (lo ≤ tN T s.2 ∧ tN T s.2 ≤ hi) := fun h => absurd h1 (pNotLt.mpr h.1)
          rw [if_pos h1, two bad]
          exact ⟨v2, a2, r2, f2, g2, fun h => absurd (show (2 : Nat) = 0 from h) (by decide)⟩
        · rw [if_neg h1]
          by_cases h2 : tN T s.2 ≤ hi
          · obtain ⟨a, e, f, g⟩ := s_goes (G := G) (d := d) q h0
            rw [if_pos h2, s_good q, pCI, pB0, if_pos h0, e, pCV, show mNumS T lo hi s = (0, tE T s.2) from ((if_pos h0).trans (if_pos k2)).trans (if_pos ⟨pNotLt.mp h1, h2⟩)]
            exact ⟨_, a, rfl, f, g, fun _ => rfl⟩
          · have bad : ¬ (lo ≤ tN T s.2 ∧ tN T s.2 ≤ hi) := fun h => h2 h.2
            rw [if_neg h2, two bad]
            exact ⟨v2, a2, r2, f2, g2, fun h => absurd (show (2 : Nat) = 0 from h) (by decide)⟩
      · have bad : ¬ (lo ≤ tN T s.2 ∧ tN T s.2 ≤ hi) := fun h => by
          rw [tN_long h4] at h
          exact absurd hh (pNotLt.mpr h.2)
        rw [if_pos (show (4 : Int32) < Int32.ofNat (tEq T (tQ T s.2) - tQ T s.2) from (pN_lt (a := 4) (by decide) (by omega)).mpr (by omega)), two bad]
        exact ⟨v2, a2, r2, f2, g2, fun h => absurd (show (2 : Nat) = 0 from h) (by decide)⟩
    · obtain ⟨v1, a1, r1, f1, g1⟩ := s_badNum (G := G) (d := d) (x := 1) (c := 1) rfl (by decide) (by decide) q h0
      rw [if_neg (fun h => k2 ((pEqL (c := 2) (n := 2) rfl (by decide) (by omega)).mp h)), show mNumS T lo hi s = (1, s.2) from (if_pos h0).trans (if_neg k2)]
      exact ⟨v1, a1, r1, f1, g1, fun h => absurd (show (1 : Nat) = 0 from h) (by decide)⟩
  · rw [if_neg h0, mNumS_b h0]
    exact ⟨_, σ, rfl, rFr.rfl', q, fun h => absurd h h0⟩
theorem s_knW (q : RS σ T s) {x : Nat} {c : Int32} (hx : x < 39) (hc : c = Int32.ofNat x) : kn T (tQ T s.2) = c ↔ tW T s x = true := kn_lit hx hc
theorem s_named (q : RS σ T s) {x : Nat} {c lo hi : Int32} (hx : x < 39) (hc : c = Int32.ofNat x) (hh : hi < 10000) : ∃ v a, Rn G (d + 4) 74 [.ref 33, .int c, .int lo, .int hi] σ = oI v a ∧ rFr σ a ∧ RS a T (mFd T x lo hi s) ∧ ((mFd T x lo hi s).1 = 0 → v = vFd T s) := by
  rw [e_Md_named, s_known q, pCI]
  have val : (mFd T x lo hi s).1 = 0 → tN T (mNeed T (tW T s x) s).2 = vFd T s := fun h => by
    have h' : (mNumS T lo hi (mNeed T (tW T s x) s)).1 = 0 := h
    rw [(mNeed_0 (mNumS_0 h').1).2.2]
    rfl
  cases hb : tW T s x with
  | true =>
    obtain ⟨a, e, f, g⟩ := s_need (G := G) (d := d) q (b := true)
    rw [← hb] at g
    obtain ⟨v, b, e2, f2, g2, h2⟩ := s_number (G := G) (d := d) (lo := lo) (hi := hi) g hh
    have e' : Rn G (d + 3) 75 [.ref 33, .int 1] σ = oV a := e
    rw [if_pos ((s_knW q hx hc).mpr hb), e', pCV, e2, pCI]
    exact ⟨v, b, rfl, f.trans f2, g2, fun h => (h2 h).trans (val h)⟩
  | false =>
    obtain ⟨a, e, f, g⟩ := s_need (G := G) (d := d) q (b := false)
    rw [← hb] at g
    obtain ⟨v, b, e2, f2, g2, h2⟩ := s_number (G := G) (d := d) (lo := lo) (hi := hi) g hh
    have e' : Rn G (d + 3) 75 [.ref 33, .int 0] σ = oV a := e
    rw [if_neg (fun h => by rw [(s_knW q hx hc).mp h] at hb; exact absurd hb (by decide)), e', pCV, e2, pCI]
    exact ⟨v, b, rfl, f.trans f2, g2, fun h => (h2 h).trans (val h)⟩
theorem s_perhaps (q : RS σ T s) {x : Nat} {c lo hi w : Int32} (hx : x < 39) (hc : c = Int32.ofNat x) (hh : hi < 10000) : ∃ v a, Rn G (d + 5) 77 [.ref 33, .int c, .int lo, .int hi, .int w] σ = oI v a ∧ rFr σ a ∧ RS a T (mPz T x lo hi s) ∧ ((mPz T x lo hi s).1 = 0 → v = vPz T x w s) := by
  rw [e_Md_perhaps, s_good q, pCI, pB0]
  by_cases h0 : s.1 = 0
  · rw [if_pos h0, s_known q, pCI]
    by_cases hb : tW T s x = true
    · obtain ⟨v, b, e2, f2, g2, h2⟩ := s_named (G := G) (d := d) (lo := lo) (hi := hi) q hx hc hh
      have em : mPz T x lo hi s = mFd T x lo hi s := by
        unfold mPz mFd
        rw [if_pos ⟨h0, hb⟩, show mNeed T (tW T s x) s = (0, tE T s.2) from (if_pos h0).trans (if_pos hb)]
      rw [if_pos ((s_knW q hx hc).mpr hb), e2, pCI, em]
      exact ⟨v, b, rfl, f2, g2, fun h => (h2 h).trans (if_pos hb).symm⟩
    · rw [if_neg (fun h => hb ((s_knW q hx hc).mp h)), show mPz T x lo hi s = s from if_neg fun h => hb h.2]
      exact ⟨w, σ, rfl, rFr.rfl', q, fun _ => (if_neg hb).symm⟩
  · rw [if_neg h0, mPz_b h0]
    exact ⟨w, σ, rfl, rFr.rfl', q, fun h => absurd h h0⟩
/-- a word, if it comes -/
def mCo (T : Tx) (x : Nat) (s : Nat × Nat) : Nat × Nat := if s.1 = 0 ∧ tW T s x = true then (0, tE T s.2) else s
theorem s_comesW (q : RS σ T s) {x : Nat} {c : Int32} (hx : x < 39) (hc : c = Int32.ofNat x) : ∃ a, Rn G (d + 4) 79 [.ref 33, .int c] σ = oI (if s.1 = 0 ∧ tW T s x = true then 1 else 0) a ∧ rFr σ a ∧ RS a T (mCo T x s) := by
  rw [e_Md_comes, s_good q, pCI, pB0]
  unfold mCo
  by_cases h0 : s.1 = 0
  · rw [if_pos h0, s_known q, pCI]
    by_cases hb : tW T s x = true
    · obtain ⟨a, e, f, g⟩ := s_goes (G := G) (d := d + 1) q h0
      rw [if_pos ((s_knW q hx hc).mpr hb), e, pCV, if_pos ⟨h0, hb⟩, if_pos ⟨h0, hb⟩]
      exact ⟨a, rfl, f, g⟩
    · rw [if_neg (fun h => hb ((s_knW q hx hc).mp h)), if_neg (fun h => hb h.2), if_neg (fun h => hb h.2)]
      exact ⟨σ, rfl, rFr.rfl', q⟩
  · rw [if_neg h0, if_neg (fun h => h0 h.1), if_neg (fun h => h0 h.1)]
    exact ⟨σ, rfl, rFr.rfl', q⟩
theorem s_isSignR (q : RS σ T s) {c : Int32} : Rn G (d + 1) 85 [.ref 33, .int c] σ = oI (bI (tS T s c)) σ := by
  obtain ⟨q1, _, _, q4, _, q6⟩ := q
  have q2 := q1.2.1
  have k5 : tK T s.2 < 5 := tKq_lt T (tQ T s.2)
  have lQ := tQ_le q4
  have e20 : σ.1 33 20 = Int32.ofNat (tK T s.2) := q6.2.1
  rw [e_Md_isSign, e20, q6.2.2.2.2.1]
  unfold tS
  by_cases h : tK T s.2 = 3
  · have hlt : tQ T s.2 < T.1 := by
      have : ¬ T.1 ≤ tQ T s.2 := fun e => by
        have : tK T s.2 = 0 := tK0.mpr e
        omega
      omega
    rw [if_pos (by rw [h]; rfl), tB_in hlt, show (tK T s.2 == 3) = true from beq_iff_eq.mpr h]
    by_cases h2 : T.2 (tQ T s.2) = c
    · rw [if_pos h2, show decide (T.2 (tQ T s.2) = c) = true from decide_eq_true h2]
      rfl
    · rw [if_neg h2, show decide (T.2 (tQ T s.2) = c) = false from decide_eq_false h2]
      rfl
  · rw [if_neg (fun h2 => h ((pEqL (c := 3) (n := 3) rfl (by decide) (by omega)).mp h2)), show (tK T s.2 == 3) = false from beq_eq_false_iff_ne.mpr h]
    rfl
theorem s_semiR (q : RS σ T s) : ∃ a, (aCI (Rn G (d + 3) 85 [.ref 33, .int 59] σ) fun v5 σ4 => aCV (Rn G (d + 3) 75 [.ref 33, .int v5] σ4) fun σ6 => (oV σ6 : Option (aRs × aH))) = oV a ∧ rFr σ a ∧ RS a T (mNeed T (tS T s 59) s) := by
  obtain ⟨a, e, f, g⟩ := s_need (G := G) (d := d) q (b := tS T s 59)
  rw [s_isSignR (d := d + 2) q, pCI, e, pCV]
  exact ⟨a, rfl, f, g⟩
end PRPrim
