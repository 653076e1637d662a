/-! ===== what is taken: the class ===== -/
def mNeed (T : Tx) (b : Bool) (s : Nat × Nat) : Nat × Nat := if s.1 = 0 then (if b = true then (0, tE T s.2) else (1, s.2)) else s
def mNumS (T : Tx) (lo hi : Int32) (s : Nat × Nat) : Nat × Nat := if s.1 = 0 then (if tK T s.2 = 2 then (if lo ≤ tN T s.2 ∧ tN T s.2 ≤ hi then (0, tE T s.2) else (2, s.2)) else (1, s.2)) else s
def tW (T : Tx) (s : Nat × Nat) (x : Nat) : Bool := tIs T (tQ T s.2) (KW x)
theorem mNeed_t {T : Tx} {b : Bool} {s : Nat × Nat} (h : b = true) : mAdv T s = mNeed T b s := by
  unfold mAdv mNeed
  rw [if_pos h]
theorem mNeed_f {T : Tx} {b : Bool} {s : Nat × Nat} (h : ¬ b = true) : mAdv T (mFail 1 s) = mNeed T b s := by
  unfold mAdv mFail mNeed
  rw [if_neg h]
  by_cases h0 : s.1 = 0
  · rw [if_pos h0]
    rfl
  · rw [if_neg h0, if_neg h0]
theorem mNeed_0 {T : Tx} {b : Bool} {s : Nat × Nat} (h : (mNeed T b s).1 = 0) : s.1 = 0 ∧ b = true ∧ mNeed T b s = (0, tE T s.2) := by
  unfold mNeed at h ⊢
  by_cases h0 : s.1 = 0
  · rw [if_pos h0] at h ⊢
    by_cases hb : b = true
    · rw [if_pos hb]
      exact ⟨h0, hb, rfl⟩
    · rw [if_neg hb] at h
      exact absurd (show (1 : Nat) = 0 from h) (by decide)
  · rw [if_neg h0] at h
    exact absurd h h0
theorem mNeed_b {T : Tx} {b : Bool} {s : Nat × Nat} (h : ¬ s.1 = 0) : mNeed T b s = s := if_neg h
theorem mNumS_b {T : Tx} {lo hi : Int32} {s : Nat × Nat} (h : ¬ s.1 = 0) : mNumS T lo hi s = s := if_neg h
theorem mNumS_0 {T : Tx} {lo hi : Int32} {s : Nat × Nat} (h : (mNumS T lo hi s).1 = 0) : s.1 = 0 ∧ tK T s.2 = 2 ∧ lo ≤ tN T s.2 ∧ tN T s.2 ≤ hi ∧ mNumS T lo hi s = (0, tE T s.2) := by
  unfold mNumS at h ⊢
  by_cases h0 : s.1 = 0
  · rw [if_pos h0] at h ⊢
    by_cases hb : tK T s.2 = 2
    · rw [if_pos hb] at h ⊢
      by_cases hc : lo ≤ tN T s.2 ∧ tN T s.2 ≤ hi
      · rw [if_pos hc]
        exact ⟨h0, hb, hc.1, hc.2, rfl⟩
      · rw [if_neg hc] at h
        exact absurd (show (2 : Nat) = 0 from h) (by decide)
    · rw [if_neg hb] at h
      exact absurd (show (1 : Nat) = 0 from h) (by decide)
  · rw [if_neg h0] at h
    exact absurd h h0
theorem mFail_ne {T : Tx} {c : Nat} (hc : 0 < c) {s : Nat × Nat} : ¬ (mAdv T (mFail c s)).1 = 0 := by
  unfold mAdv mFail
  by_cases h0 : s.1 = 0
  · rw [if_pos h0, if_neg (show ¬ (c, s.2).1 = 0 from fun e => by have e : c = 0 := e; omega)]
    exact fun e => by have e : c = 0 := e; omega
  · rw [if_neg h0, if_neg h0]
    exact h0
theorem mNum_n {T : Tx} {lo hi : Int32} {s : Nat × Nat} (h : ¬ tK T s.2 = 2) : mAdv T (mFail 1 s) = mNumS T lo hi s := by
  unfold mAdv mFail mNumS
  rw [if_neg h]
  by_cases h0 : s.1 = 0
  · rw [if_pos h0]
    rfl
  · rw [if_neg h0, if_neg h0]
theorem mNum_r {T : Tx} {lo hi : Int32} {s : Nat × Nat} (h : tK T s.2 = 2) (h2 : ¬ (lo ≤ tN T s.2 ∧ tN T s.2 ≤ hi)) : mAdv T (mFail 2 s) = mNumS T lo hi s := by
  unfold mAdv mFail mNumS
  rw [if_pos h, if_neg h2]
  by_cases h0 : s.1 = 0
  · rw [if_pos h0]
    rfl
  · rw [if_neg h0, if_neg h0]
theorem mNum_y {T : Tx} {lo hi : Int32} {s : Nat × Nat} (h : tK T s.2 = 2) (h2 : lo ≤ tN T s.2 ∧ tN T s.2 ≤ hi) : mAdv T s = mNumS T lo hi s := by
  unfold mAdv mNumS
  rw [if_pos h, if_pos h2]
theorem KW_32 : ∀ x : Fin 39, ∀ c ∈ KW x.val, c ≠ 32 := by decide
theorem KW_32' {xs : List Nat} (h : ∀ x ∈ xs, x < 39) : ∀ w ∈ xs.map KW, ∀ c ∈ w, c ≠ 32 := by
  intro w hw
  obtain ⟨x, hx, rfl⟩ := List.mem_map.mp hw
  exact KW_32 ⟨x, h x hx⟩
section PPrim
variable {G : Nat × (Nat → Int32)} {d : Nat} {σ : aH} {T : Tx} {s : Nat × Nat}
/-- which of these words; 0 up -/
def mWh (T : Tx) (s : Nat × Nat) (xs : List Nat) : Int32 := mAm T (tQ T s.2) (xs.map KW) 0
theorem mAm_rng {Q : Nat} : ∀ (ws : List (List Int32)) (j : Nat), mAm T Q ws j = -1 ∨ ∃ k, k < ws.length ∧ mAm T Q ws j = Int32.ofNat (j + k) ∧ tIs T Q (ws.getD k []) = true
  | [], _ => Or.inl rfl
  | w :: ws, j => by
    show (if tIs T Q w = true then Int32.ofNat j else mAm T Q ws (j + 1)) = -1 ∨ ∃ k, k < (w :: ws).length ∧ (if tIs T Q w = true then Int32.ofNat j else mAm T Q ws (j + 1)) = Int32.ofNat (j + k) ∧ tIs T Q ((w :: ws).getD k []) = true
    by_cases h : tIs T Q w = true
    · rw [if_pos h]
      exact Or.inr ⟨0, Nat.zero_lt_succ _, rfl, h⟩
    · rw [if_neg h]
      rcases mAm_rng ws (j + 1) with a | ⟨k, a, b, c⟩
      · exact Or.inl a
      · exact Or.inr ⟨k + 1, by rw [List.length_cons]; omega, by rw [b, show j + 1 + k = j + (k + 1) by omega], c⟩
theorem s_takeAm {r : Nat} {xs : List Nat} (so : StrOk G r (jn (xs.map KW))) (hn : xs ≠ []) (h : ∀ x ∈ xs, x < 39) (q : CS σ T s) : ∃ b, Rn G (d + 8) 35 [.ref 1, .ref r] σ = oI (mWh T s xs) b ∧ pSame [1] σ b ∧ CS b T (mNeed T (decide (0 ≤ mWh T s xs)) s) := by
  rw [e_Rh_Tape_takeAmong, s_among (d := d + 2) so (fun e => hn (List.map_eq_nil_iff.mp e)) (KW_32' h) q, pCI]
  by_cases h0 : 0 ≤ mWh T s xs
  · obtain ⟨b, e, f, g⟩ := s_adv (G := G) (d := d) q
    have h0' : (0 : Int32) ≤ mAm T (tQ T s.2) (xs.map KW) 0 := h0
    rw [if_pos h0', e, pCV]
    exact ⟨b, rfl, f, by rw [← mNeed_t (decide_eq_true h0)]; exact g⟩
  · obtain ⟨a, e1, f1, g1⟩ := s_fail (G := G) (d := d + 6) q (x := 1) (c := 1) rfl (by decide)
    obtain ⟨b, e, f, g⟩ := s_adv (G := G) (d := d) g1
    have h0' : ¬ (0 : Int32) ≤ mAm T (tQ T s.2) (xs.map KW) 0 := h0
    rw [if_neg h0', e1, pCV, e, pCV]
    exact ⟨b, rfl, f1.trans f, by rw [← mNeed_f (fun e => h0 (of_decide_eq_true e))]; exact g⟩
theorem mWh_1 {x : Nat} : mWh T s [x] = if tW T s x = true then 0 else -1 := rfl
theorem s_isW {r x : Nat} (so : StrOk G r (jn [KW x])) (hx : x < 39) (q : CS σ T s) : Rn G (d + 5) 25 [.ref 1, .ref r] σ = oI (if tW T s x = true then 0 else -1) σ := s_among so (List.cons_ne_nil _ _) (fun w hw => by rw [List.mem_singleton.mp hw]; exact KW_32 ⟨x, hx⟩) q
theorem s_takeWord {r x : Nat} (so : StrOk G r (jn [KW x])) (hx : x < 39) (q : CS σ T s) : ∃ v b, Rn G (d + 8) 35 [.ref 1, .ref r] σ = oI v b ∧ pSame [1] σ b ∧ CS b T (mNeed T (tW T s x) s) := by
  obtain ⟨b, e, f, g⟩ := s_takeAm (G := G) (d := d) (xs := [x]) so (List.cons_ne_nil _ _) (fun y hy => by rw [List.mem_singleton.mp hy]; exact hx) q
  refine ⟨_, b, e, f, ?_⟩
  rw [mWh_1] at g
  cases h : tW T s x with
  | true =>
    rw [h, if_pos rfl, show decide ((0 : Int32) ≤ 0) = true from rfl] at g
    exact g
  | false =>
    rw [h, if_neg Bool.false_ne_true, show decide ((0 : Int32) ≤ -1) = false from rfl] at g
    exact g
theorem s_takeNum (q : CS σ T s) (lo hi : Int32) : ∃ v b, Rn G (d + 8) 36 [.ref 1, .int lo, .int hi] σ = oI v b ∧ pSame [1] σ b ∧ CS b T (mNumS T lo hi s) ∧ ((mNumS T lo hi s).1 = 0 → v = tN T s.2) := by
  have q5 := q.2.2.2.2
  have k5 : tK T s.2 < 5 := tKq_lt T (tQ T s.2)
  have e4 : σ.1 1 4 = Int32.ofNat (tK T s.2) := q5.2.1
  rw [e_Rh_Tape_takeNumber, e4]
  by_cases k2 : tK T s.2 = 2
  · have e5 : σ.1 1 5 = tN T s.2 := q5.2.2.2 k2
    rw [if_pos (by rw [k2]; rfl), e5]
    obtain ⟨a, e1, f1, g1⟩ := s_fail (G := G) (d := d + 6) q (x := 2) (c := 2) rfl (by decide)
    obtain ⟨b, e, f, g⟩ := s_adv (G := G) (d := d) g1
    by_cases h1 : tN T s.2 < lo
    · have bad : ¬ (lo ≤ tN T s.2 ∧ tN T s.2 ≤ hi) := fun h => absurd h1 (pNotLt.mpr h.1)
      rw [if_pos h1, e1, pCV, e, pCV]
      rw [mNum_r k2 bad] at g
      exact ⟨_, b, rfl, f1.trans f, g, fun h => absurd ((congrArg Prod.fst (mNum_r k2 bad)).trans h) (mFail_ne (by decide))⟩
    · rw [if_neg h1]
      by_cases h2 : tN T s.2 ≤ hi
      · obtain ⟨b, e, f, g⟩ := s_adv (G := G) (d := d) q
        rw [if_pos h2, e, pCV]
        exact ⟨_, b, rfl, f, by rw [← mNum_y k2 ⟨pNotLt.mp h1, h2⟩]; exact g, fun _ => rfl⟩
      · have bad : ¬ (lo ≤ tN T s.2 ∧ tN T s.2 ≤ hi) := fun h => h2 h.2
        rw [if_neg h2, e1, pCV, e, pCV]
        rw [mNum_r k2 bad] at g
        exact ⟨_, b, rfl, f1.trans f, g, fun h => absurd ((congrArg Prod.fst (mNum_r k2 bad)).trans h) (mFail_ne (by decide))⟩
  · obtain ⟨a, e1, f1, g1⟩ := s_fail (G := G) (d := d + 6) q (x := 1) (c := 1) rfl (by decide)
    obtain ⟨b, e, f, g⟩ := s_adv (G := G) (d := d) g1
    rw [if_neg (fun h => k2 ((pEqL (c := 2) (n := 2) rfl (by decide) (by omega)).mp h)), e1, pCV, e, pCV]
    rw [mNum_n k2] at g
    exact ⟨_, b, rfl, f1.trans f, g, fun h => absurd ((congrArg Prod.fst (mNum_n k2)).trans h) (mFail_ne (by decide))⟩
/-- a word and a number -/
def mFd (T : Tx) (x : Nat) (lo hi : Int32) (s : Nat × Nat) : Nat × Nat := mNumS T lo hi (mNeed T (tW T s x) s)
def vFd (T : Tx) (s : Nat × Nat) : Int32 := tN T (tE T s.2)
theorem mFd_0 {x : Nat} {lo hi : Int32} (h : (mFd T x lo hi s).1 = 0) : s.1 = 0 ∧ tW T s x = true ∧ lo ≤ vFd T s ∧ vFd T s ≤ hi ∧ mFd T x lo hi s = (0, tE T (tE T s.2)) := by
  unfold mFd at h ⊢
  obtain ⟨a1, a2, a3, a4, a5⟩ := mNumS_0 h
  obtain ⟨b1, b2, b3⟩ := mNeed_0 a1
  rw [b3] at a2 a3 a4 a5
  rw [b3]
  exact ⟨b1, b2, a3, a4, a5⟩
theorem mFd_b {x : Nat} {lo hi : Int32} (h : ¬ s.1 = 0) : mFd T x lo hi s = s := by
  unfold mFd
  rw [mNeed_b h, mNumS_b h]
theorem s_takeField {r x : Nat} (so : StrOk G r (jn [KW x])) (hx : x < 39) (q : CS σ T s) (lo hi : Int32) : ∃ v b, Rn G (d + 9) 34 [.ref 1, .ref r, .int lo, .int hi] σ = oI v b ∧ pSame [1] σ b ∧ CS b T (mFd T x lo hi s) ∧ ((mFd T x lo hi s).1 = 0 → v = vFd T s) := by
  obtain ⟨v, a, e1, f1, g1⟩ := s_takeWord (G := G) (d := d) so hx q
  obtain ⟨w, b, e2, f2, g2, h2⟩ := s_takeNum (G := G) (d := d) g1 lo hi
  rw [e_Rh_Tape_takeField, e1, pCI, e2, pCI]
  refine ⟨w, b, rfl, f1.trans f2, g2, fun h => ?_⟩
  have h' : (mNumS T lo hi (mNeed T (tW T s x) s)).1 = 0 := h
  have := (mNeed_0 (mNumS_0 h').1).2.2
  rw [h2 h', this]
  rfl
theorem s_takeIf {r x : Nat} (so : StrOk G r (jn [KW x])) (hx : x < 39) (q : CS σ T s) : ∃ b, Rn G (d + 8) 39 [.ref 1, .ref r] σ = oI (if s.1 = 0 ∧ tW T s x = true then 1 else 0) b ∧ pSame [1] σ b ∧ CS b T (if s.1 = 0 ∧ tW T s x = true then (0, tE T s.2) else s) := by
  rw [e_Rh_Tape_takeIf]
  by_cases h0 : s.1 = 0
  · rw [if_pos (q.z.mpr h0), s_isW (d := d + 2) so hx q, pCI]
    by_cases h1 : tW T s x = true
    · obtain ⟨b, e, f, g⟩ := s_adv (G := G) (d := d) q
      rw [if_pos h1, if_pos rfl, if_neg (by decide), e, pCV, if_pos ⟨h0, h1⟩, if_pos ⟨h0, h1⟩]
      rw [show mAdv T s = (0, tE T s.2) from if_pos h0] at g
      exact ⟨b, rfl, f, g⟩
    · rw [if_neg h1, if_neg (by decide), if_pos rfl, if_neg (fun h => h1 h.2), if_neg (fun h => h1 h.2)]
      exact ⟨σ, rfl, pSame.rfl', q⟩
  · rw [if_neg (fun h => h0 (q.z.mp h)), if_pos rfl, if_neg (fun h => h0 h.1), if_neg (fun h => h0 h.1)]
    exact ⟨σ, rfl, pSame.rfl', q⟩
/-- perhaps a word and a number -/
def mPz (T : Tx) (x : Nat) (lo hi : Int32) (s : Nat × Nat) : Nat × Nat := if s.1 = 0 ∧ tW T s x = true then mNumS T lo hi (0, tE T s.2) else s
def vPz (T : Tx) (x : Nat) (w : Int32) (s : Nat × Nat) : Int32 := if tW T s x = true then vFd T s else w
theorem mPz_b {x : Nat} {lo hi : Int32} (h : ¬ s.1 = 0) : mPz T x lo hi s = s := if_neg fun e => h e.1
theorem mPz_0 {x : Nat} {lo hi w : Int32} (hl : lo ≤ w) (hh : w ≤ hi) (h : (mPz T x lo hi s).1 = 0) : s.1 = 0 ∧ lo ≤ vPz T x w s ∧ vPz T x w s ≤ hi := by
  unfold mPz at h
  unfold vPz
  by_cases h0 : s.1 = 0 ∧ tW T s x = true
  · rw [if_pos h0] at h
    obtain ⟨_, _, a, b, _⟩ := mNumS_0 h
    rw [if_pos h0.2]
    exact ⟨h0.1, a, b⟩
  · rw [if_neg h0] at h
    rw [if_neg (fun e => h0 ⟨h, e⟩)]
    exact ⟨h, hl, hh⟩
theorem s_takePh {r x : Nat} (so : StrOk G r (jn [KW x])) (hx : x < 39) (q : CS σ T s) (lo hi w : Int32) : ∃ v b, Rn G (d + 9) 38 [.ref 1, .ref r, .int lo, .int hi, .int w] σ = oI v b ∧ pSame [1] σ b ∧ CS b T (mPz T x lo hi s) ∧ ((mPz T x lo hi s).1 = 0 → v = vPz T x w s) := by
  obtain ⟨a, e1, f1, g1⟩ := s_takeIf (G := G) (d := d) so hx q
  rw [e_Rh_Tape_takePerhaps, e1, pCI]
  unfold mPz
  by_cases h0 : s.1 = 0 ∧ tW T s x = true
  · rw [if_pos h0] at g1 ⊢
    obtain ⟨v, b, e2, f2, g2, h2⟩ := s_takeNum (G := G) (d := d) g1 lo hi
    rw [if_neg (by decide), e2, pCI, if_pos h0]
    refine ⟨v, b, rfl, f1.trans f2, g2, fun h => ?_⟩
    rw [h2 h]
    unfold vPz
    rw [if_pos h0.2]
    rfl
  · rw [if_neg h0] at g1 ⊢
    rw [if_pos rfl, if_neg h0]
    refine ⟨w, a, rfl, f1, g1, fun h => ?_⟩
    unfold vPz
    rw [if_neg (fun e => h0 ⟨h, e⟩)]
/-- one of two words, or none -/
def mEi (T : Tx) (x y : Nat) (s : Nat × Nat) : Nat × Nat := if s.1 = 0 ∧ (tW T s x = true ∨ tW T s y = true) then (0, tE T s.2) else s
def vEi (T : Tx) (x y : Nat) (s : Nat × Nat) : Int32 := if tW T s x = true then 1 else if tW T s y = true then 2 else 0
theorem mEi_0 {x y : Nat} (h : (mEi T x y s).1 = 0) : s.1 = 0 := by
  unfold mEi at h
  by_cases h0 : s.1 = 0 ∧ (tW T s x = true ∨ tW T s y = true)
  · exact h0.1
  · rw [if_neg h0] at h
    exact h
theorem mEi_b {x y : Nat} (h : ¬ s.1 = 0) : mEi T x y s = s := if_neg fun e => h e.1
theorem s_takeEi {r x y : Nat} (so : StrOk G r (jn [KW x, KW y])) (hx : x < 39) (hy : y < 39) (q : CS σ T s) : ∃ v b, Rn G (d + 8) 41 [.ref 1, .ref r] σ = oI v b ∧ pSame [1] σ b ∧ CS b T (mEi T x y s) ∧ ((mEi T x y s).1 = 0 → v = vEi T x y s) := by
  rw [e_Rh_Tape_takeEither]
  unfold mEi
  by_cases h0 : s.1 = 0
  · have am := s_among (G := G) (d := d + 2) so (List.cons_ne_nil _ _) (fun w hw => by
      rcases List.mem_cons.mp hw with e | hw
      · rw [e]
        exact KW_32 ⟨x, hx⟩
      · rw [List.mem_singleton.mp hw]
        exact KW_32 ⟨y, hy⟩) q
    have em : mAm T (tQ T s.2) [KW x, KW y] 0 = if tW T s x = true then 0 else if tW T s y = true then 1 else -1 := rfl
    rw [if_pos (q.z.mpr h0), am, pCI, em]
    obtain ⟨b, e, f, g⟩ := s_adv (G := G) (d := d) q
    rw [show mAdv T s = (0, tE T s.2) from if_pos h0] at g
    unfold vEi
    by_cases h1 : tW T s x = true
    · rw [if_pos h1, if_neg (by decide), e, pCV, if_pos ⟨h0, Or.inl h1⟩]
      exact ⟨_, b, rfl, f, g, fun _ => by rw [if_pos h1]; rfl⟩
    · rw [if_neg h1]
      by_cases h2 : tW T s y = true
      · rw [if_pos h2, if_neg (by decide), e, pCV, if_pos ⟨h0, Or.inr h2⟩]
        exact ⟨_, b, rfl, f, g, fun _ => by rw [if_neg h1, if_pos h2]; rfl⟩
      · rw [if_neg h2, if_pos (by decide), if_neg (fun h => h.2.elim h1 h2)]
        exact ⟨_, σ, rfl, pSame.rfl', q, fun _ => by rw [if_neg h1, if_neg h2]; rfl⟩
  · rw [if_neg (fun h => h0 (q.z.mp h)), if_pos (by decide), if_neg (fun h => h0 h.1)]
    exact ⟨_, σ, rfl, pSame.rfl', q, fun h => absurd h h0⟩
/-- a sign -/
def tS (T : Tx) (s : Nat × Nat) (c : Int32) : Bool := (tK T s.2 == 3) && decide (T.2 (tQ T s.2) = c)
theorem s_isSignC (q : CS σ T s) {c : Int32} : Rn G (d + 2) 45 [.ref 1, .int c] σ = oI (bI (tS T s c)) σ := by
  obtain ⟨q1, _, _, q4, q5⟩ := q
  have q2 := q1.2.1
  have k5 : tK T s.2 < 5 := tKq_lt T (tQ T s.2)
  have lQ := tQ_le q4
  have e4 : σ.1 1 4 = Int32.ofNat (tK T s.2) := q5.2.1
  rw [e_Rh_Tape_isSign, e4, q5.1]
  unfold tS
  by_cases h : tK T s.2 = 3
  · have hlt : tQ T s.2 < T.1 := by
      have : ¬ T.1 ≤ tQ T s.2 := fun e => by
        have : tK T s.2 = 0 := tK0.mpr e
        omega
      omega
    rw [if_pos (by rw [h]; rfl), s_byteC q1 (by omega), pCI, tB_in hlt, show (tK T s.2 == 3) = true from beq_iff_eq.mpr h]
    by_cases h2 : T.2 (tQ T s.2) = c
    · rw [if_pos h2, show decide (T.2 (tQ T s.2) = c) = true from decide_eq_true h2]
      rfl
    · rw [if_neg h2, show decide (T.2 (tQ T s.2) = c) = false from decide_eq_false h2]
      rfl
  · rw [if_neg (fun h2 => h ((pEqL (c := 3) (n := 3) rfl (by decide) (by omega)).mp h2)), show (tK T s.2 == 3) = false from beq_eq_false_iff_ne.mpr h]
    rfl
theorem bI0 {b : Bool} : bI b = 0 ↔ ¬ b = true := by
  cases b <;> decide
theorem s_takeSemi (q : CS σ T s) : ∃ b, Rn G (d + 8) 55 [.ref 1] σ = oV b ∧ pSame [1] σ b ∧ CS b T (mNeed T (tS T s 59) s) := by
  rw [e_Rh_Tape_takeSemicolon, s_isSignC (d := d + 5) q, pCI]
  by_cases h : tS T s 59 = true
  · obtain ⟨b, e, f, g⟩ := s_adv (G := G) (d := d) q
    rw [if_neg (fun e => bI0.mp e h), e, pCV, ← mNeed_t h]
    exact ⟨b, rfl, f, g⟩
  · obtain ⟨a, e1, f1, g1⟩ := s_fail (G := G) (d := d + 6) q (x := 1) (c := 1) rfl (by decide)
    obtain ⟨b, e, f, g⟩ := s_adv (G := G) (d := d) g1
    rw [if_pos (bI0.mpr h), e1, pCV, e, pCV, ← mNeed_f h]
    exact ⟨b, rfl, f1.trans f, g⟩
end PPrim
