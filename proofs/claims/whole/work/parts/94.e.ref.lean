/-! ===== the reference's tokens ===== -/
theorem pk_step {W x : Nat} (hW : W < 1099511627776) (hx : x < 32) : (Int64.ofNat W <<< ((5 : Int32).toInt64 &&& 63)) ||| Int64.ofNat x = Int64.ofNat (W * 32 + x) := by
  apply Int64.toBitVec_inj.mp
  rw [Int64.toBitVec_or, Int64.toBitVec_shiftLeft, show ((5 : Int32).toInt64 &&& 63).toBitVec.smod 64 = 5#64 by decide, Int64.toBitVec_ofNat', Int64.toBitVec_ofNat', Int64.toBitVec_ofNat']
  apply BitVec.eq_of_toNat_eq
  rw [BitVec.toNat_or, BitVec.shiftLeft_eq', BitVec.toNat_shiftLeft, BitVec.toNat_ofNat, BitVec.toNat_ofNat, BitVec.toNat_ofNat, BitVec.toNat_ofNat]
  have e64 : (2 : Nat) ^ 64 = 18446744073709551616 := by decide
  rw [e64, Nat.mod_eq_of_lt (show W < 18446744073709551616 by omega), Nat.mod_eq_of_lt (show x < 18446744073709551616 by omega), Nat.mod_eq_of_lt (show 5 < 18446744073709551616 by omega), Nat.shiftLeft_eq, Nat.mod_eq_of_lt (show W * 2 ^ 5 < 18446744073709551616 by omega), Nat.mod_eq_of_lt (show W * 32 + x < 18446744073709551616 by omega), ← Nat.shiftLeft_eq, ← Nat.shiftLeft_add_eq_or_of_lt (show x < 2 ^ 5 by omega), Nat.shiftLeft_eq]
/-- a word's letters, packed -/
def tD (T : Tx) (i : Nat) : Nat := (T.2 i).toInt.toNat - 96
def tP (T : Tx) (q : Nat) : Nat → Nat
  | 0 => 0
  | k + 1 => tP T q k * 32 + tD T (q + k)
theorem let_all : ∀ k : Fin 26, (Int32.ofNat (97 + k.val) - 96).toInt64 = Int64.ofNat (1 + k.val) := by decide
theorem tD_of {T : Tx} {i : Nat} (h1 : 97 ≤ T.2 i) (h2 : T.2 i ≤ 122) : 1 ≤ tD T i ∧ tD T i ≤ 26 ∧ (T.2 i - 96).toInt64 = Int64.ofNat (tD T i) ∧ T.2 i = Int32.ofNat (tD T i + 96) := by
  rw [pLe, show (97 : Int32).toInt = 97 from rfl] at h1
  rw [pLe, show (122 : Int32).toInt = 122 from rfl] at h2
  have e : T.2 i = Int32.ofNat (tD T i + 96) := by
    apply Int32.toInt_inj.mp
    rw [pN_int (by unfold tD; omega)]
    unfold tD
    omega
  have b : 1 ≤ tD T i ∧ tD T i ≤ 26 := by
    unfold tD
    omega
  refine ⟨b.1, b.2, ?_, e⟩
  have a := let_all ⟨tD T i - 1, by omega⟩
  rw [show 97 + (⟨tD T i - 1, by omega⟩ : Fin 26).val = tD T i + 96 by show 97 + (tD T i - 1) = _; omega, show 1 + (⟨tD T i - 1, by omega⟩ : Fin 26).val = tD T i by show 1 + (tD T i - 1) = _; omega, ← e] at a
  exact a
theorem tP_lt {T : Tx} {q : Nat} : ∀ k, (∀ j, q ≤ j → j < q + k → tD T j ≤ 26) → tP T q k < 32 ^ k
  | 0, _ => (by decide : (0 : Nat) < 32 ^ 0)
  | k + 1, h => by
    have a := tP_lt k (fun j h1 h2 => h j h1 (by omega))
    have b := h (q + k) (by omega) (by omega)
    show tP T q k * 32 + tD T (q + k) < 32 ^ (k + 1)
    rw [Nat.pow_succ]
    omega
theorem tV_snoc (T : Tx) : ∀ (k i : Nat) (v : Int32), tV T (k + 1) i v = tV T k i v * 10 + T.2 (i + k) - 48
  | 0, i, v => rfl
  | k + 1, i, v => by
    rw [tV_n, tV_snoc T k (i + 1), tV_n, show i + 1 + k = i + (k + 1) by omega]
theorem tB_row {T : Tx} {lo hi : Int32} (h0 : 0 < lo) {i : Nat} : (lo ≤ tB T i ∧ tB T i ≤ hi) ↔ (i < T.1 ∧ lo ≤ T.2 i ∧ T.2 i ≤ hi) := by
  unfold tB
  by_cases h : i < T.1
  · rw [if_pos h]
    exact ⟨fun a => ⟨h, a⟩, fun a => a.2⟩
  · rw [if_neg h]
    exact ⟨fun a => absurd h0 (pNotLt.mpr a.1), fun a => absurd a.1 h⟩
section PRef
variable {G : Nat × (Nat → Int32)} {d : Nat} {σ : aH} {T : Tx}
def rB (σ : aH) (T : Tx) : Prop := σ.1 33 18 = Int32.ofNat T.1 ∧ T.1 ≤ 700 ∧ ∀ i, i < T.1 → σ.1 41 i = T.2 i
/-- a token's place, sort, end, length, first byte, number, letters -/
def rFl (σ : aH) (T : Tx) (q : Nat) : Prop := σ.1 33 21 = Int32.ofNat q ∧ σ.1 33 20 = Int32.ofNat (tKq T q) ∧ σ.1 33 19 = Int32.ofNat (tEq T q) ∧ σ.1 33 22 = Int32.ofNat (tEq T q - q) ∧ σ.1 33 24 = tB T q ∧ (tKq T q = 2 → tEq T q - q ≤ 4 → σ.1 33 23 = tNq T q) ∧ (tKq T q = 1 → tEq T q - q ≤ 7 → σ.2 33 25 = Int64.ofNat (tP T q (tEq T q - q)))
/-- what the reading of tokens leaves as it was -/
def rGo (σ σ' : aH) : Prop := pSame [33] σ σ' ∧ ∀ k, k ≤ 18 ∨ 25 < k → σ'.1 33 k = σ.1 33 k
theorem rGo.rfl' : rGo σ σ := ⟨pSame.rfl', fun _ _ => rfl⟩
theorem rGo.trans {a b : aH} (f : rGo σ a) (g : rGo a b) : rGo σ b := ⟨f.1.trans g.1, fun k hk => (g.2 k hk).trans (f.2 k hk)⟩
theorem rGo.si {a : aH} (f : rGo σ a) {j : Nat} {x : Int32} (h : 18 < j ∧ j ≤ 25) : rGo σ (aSI a 33 j x) := ⟨f.1.si (by decide), fun k hk => (pSI_of (by omega)).trans (f.2 k hk)⟩
theorem rGo.sl {a : aH} (f : rGo σ a) {j : Nat} {x : Int64} : rGo σ (aSL a 33 j x) := ⟨f.1.sl (by decide), fun k hk => (congrFun (congrFun pSL_1 33) k).trans (f.2 k hk)⟩
theorem rB.go {a : aH} (q : rB σ T) (f : rGo σ a) : rB a T := by
  unfold rB
  rw [f.2 18 (Or.inl (by decide)), f.1.at (by decide)]
  exact q
theorem s_byteR (q : rB σ T) {i : Nat} (hi : i < 2147483648) : Rn G (d + 1) 64 [.ref 33, .int (Int32.ofNat i)] σ = oI (tB T i) σ := by
  obtain ⟨q1, q2, q3⟩ := q
  rw [e_Md_byteAt, q1]
  unfold tB
  by_cases h : i < T.1
  · rw [if_neg (pGo h (by omega)), pIx (by omega) (by decide), q3 i h, if_pos h]
  · rw [if_pos ((pN_le (by omega) hi).mpr (by omega)), if_neg h]
theorem s_isLetter {x : Int32} : Rn G (d + 1) 65 [.int x] σ = oI (if 97 ≤ x ∧ x ≤ 122 then 1 else 0) σ := by
  rw [e_Md_isLetter]
  by_cases h1 : x < 97
  · rw [if_pos h1, if_neg (fun h => absurd h1 (pNotLt.mpr h.1))]
  · rw [if_neg h1]
    by_cases h2 : 122 < x
    · rw [if_pos h2, if_neg (fun h => absurd h2 (pNotLt.mpr h.2))]
    · rw [if_neg h2, if_pos ⟨pNotLt.mp h1, pNotLt.mp h2⟩]
theorem s_isDigit {x : Int32} : Rn G (d + 1) 66 [.int x] σ = oI (if 48 ≤ x ∧ x ≤ 57 then 1 else 0) σ := by
  rw [e_Md_isDigit]
  by_cases h1 : x < 48
  · rw [if_pos h1, if_neg (fun h => absurd h1 (pNotLt.mpr h.1))]
  · rw [if_neg h1]
    by_cases h2 : 57 < x
    · rw [if_pos h2, if_neg (fun h => absurd h2 (pNotLt.mpr h.2))]
    · rw [if_neg h2, if_pos ⟨pNotLt.mp h1, pNotLt.mp h2⟩]
/-- what the stretch of a word or number leaves: all but its own fields -/
def rLp (a b : aH) : Prop := rGo a b ∧ b.1 33 21 = a.1 33 21 ∧ b.1 33 24 = a.1 33 24
theorem s_wordR {q : Nat} : ∀ (k i : Nat) (a : aH), i + k = T.1 → q ≤ i → rB a T → a.1 33 19 = Int32.ofNat i → a.1 33 21 = Int32.ofNat q → (∀ j, q ≤ j → j < i → tD T j ≤ 26) → (i - q ≤ 7 → a.2 33 25 = Int64.ofNat (tP T q (i - q))) → ∃ b, Lq G (d + 1) M_63 (108, [some (.ref 33), none], [], a) = oV b ∧ rLp a b ∧ b.1 33 19 = Int32.ofNat (tRn T 97 122 k i) ∧ b.1 33 20 = 1 ∧ b.1 33 22 = Int32.ofNat (tRn T 97 122 k i - q) ∧ (tRn T 97 122 k i - q ≤ 7 → b.2 33 25 = Int64.ofNat (tP T q (tRn T 97 122 k i - q))) := by
  intro k
  induction k with
  | zero =>
    intro i a hi hq qb e19 e21 hl hp
    have hi : i = T.1 := hi
    have q2 := qb.2.1
    refine ⟨aSI (aSI a 33 20 1) 33 22 (Int32.ofNat (i - q)), ?_, ⟨(rGo.rfl'.si (by decide)).si (by decide), by rw [pSI_of (by decide), pSI_of (by decide)], by rw [pSI_of (by decide), pSI_of (by decide)]⟩, ?_, ?_, pSI_at, hp⟩
    · rw [c_Md_goes_108, e19, s_byteR qb (by omega), pCI, s_isLetter, pCI, if_neg (fun h => absurd ((tB_row (by decide)).mp h).1 (by omega)), if_pos rfl, e19, e21, pSubN hq]
    · rw [pSI_of (by decide), pSI_of (by decide), e19]
      rfl
    · rw [pSI_of (by decide), pSI_at]
  | succ k ih =>
    intro i a hi hq qb e19 e21 hl hp
    have q2 := qb.2.1
    rw [tRn_n]
    by_cases h : i < T.1 ∧ 97 ≤ T.2 i ∧ T.2 i ≤ 122
    · obtain ⟨d1, d2, d3, _⟩ := tD_of h.2.1 h.2.2
      have hl' : ∀ j, q ≤ j → j < i + 1 → tD T j ≤ 26 := by
        intro j h1 h2
        by_cases e : j = i
        · rw [e]
          exact d2
        · exact hl j h1 (by omega)
      rw [if_pos h]
      by_cases h8 : 8 ≤ i - q
      · obtain ⟨b, e, ⟨f, f1, f2⟩, g⟩ := ih (i + 1) (aSI a 33 19 (Int32.ofNat (i + 1))) (by omega) (by omega) (qb.go (rGo.rfl'.si (by decide))) pSI_at ((pSI_of (by decide)).trans e21) hl' (fun hh => absurd hh (by omega))
        refine ⟨b, ?_, ⟨(rGo.rfl'.si (by decide)).trans f, f1.trans (pSI_of (by decide)), f2.trans (pSI_of (by decide))⟩, g⟩
        rw [c_Md_goes_108, e19, s_byteR qb (by omega), pCI, s_isLetter, pCI, if_pos ((tB_row (by decide)).mpr h), if_neg (by decide), e19, e21, pSubN hq, if_pos (show (8 : Int32) ≤ Int32.ofNat (i - q) from (pN_le (a := 8) (by decide) (by omega)).mpr h8), pN_s]
        exact e
      · obtain ⟨b, e, ⟨f, f1, f2⟩, g⟩ := ih (i + 1) (aSI (aSL a 33 25 ((a.2 33 25 <<< ((5 : Int32).toInt64 &&& 63)) ||| (T.2 i - 96).toInt64)) 33 19 (Int32.ofNat (i + 1))) (by omega) (by omega) (qb.go ((rGo.rfl'.sl).si (by decide))) pSI_at ((pSI_of (by decide)).trans e21) hl' (fun hh => by
          show (aSL a 33 25 _).2 33 25 = _
          have lt := tP_lt (T := T) (q := q) (i - q) (fun j h1 h2 => hl j h1 (by omega))
          have le : 32 ^ (i - q) ≤ 32 ^ 7 := Nat.pow_le_pow_right (by decide) (by omega)
          have e7 : (32 : Nat) ^ 7 = 34359738368 := by decide
          rw [hp (by omega), d3, pk_step (by omega) (by omega), show i + 1 - q = (i - q) + 1 by omega]
          show _ = Int64.ofNat (tP T q (i - q) * 32 + tD T (q + (i - q)))
          rw [show q + (i - q) = i by omega]
          exact pSL_at)
        refine ⟨b, ?_, ⟨((rGo.rfl'.sl).si (by decide)).trans f, f1.trans (pSI_of (by decide)), f2.trans (pSI_of (by decide))⟩, g⟩
        rw [c_Md_goes_108, e19, s_byteR qb (by omega), pCI, s_isLetter, pCI, if_pos ((tB_row (by decide)).mpr h), if_neg (by decide), e19, e21, pSubN hq, if_neg (fun h : (8 : Int32) ≤ Int32.ofNat (i - q) => h8 ((pN_le (a := 8) (by decide) (by omega)).mp h)), s_byteR qb (by omega), pCI, tB_in h.1, e19, pN_s]
        exact e
    · rw [if_neg h]
      refine ⟨aSI (aSI a 33 20 1) 33 22 (Int32.ofNat (i - q)), ?_, ⟨(rGo.rfl'.si (by decide)).si (by decide), by rw [pSI_of (by decide), pSI_of (by decide)], by rw [pSI_of (by decide), pSI_of (by decide)]⟩, ?_, ?_, pSI_at, hp⟩
      · rw [c_Md_goes_108, e19, s_byteR qb (by omega), pCI, s_isLetter, pCI, if_neg (fun h2 => h ((tB_row (by decide)).mp h2)), if_pos rfl, e19, e21, pSubN hq]
      · rw [pSI_of (by decide), pSI_of (by decide), e19]
      · rw [pSI_of (by decide), pSI_at]
theorem s_numR {q : Nat} : ∀ (k i : Nat) (a : aH), i + k = T.1 → q ≤ i → rB a T → a.1 33 19 = Int32.ofNat i → a.1 33 21 = Int32.ofNat q → (i - q ≤ 4 → a.1 33 23 = tV T (i - q) q 0) → ∃ b, Lq G (d + 1) M_63 (187, [some (.ref 33), none], [], a) = oV b ∧ rLp a b ∧ b.1 33 19 = Int32.ofNat (tRn T 48 57 k i) ∧ b.1 33 20 = 2 ∧ b.1 33 22 = Int32.ofNat (tRn T 48 57 k i - q) ∧ (tRn T 48 57 k i - q ≤ 4 → b.1 33 23 = tV T (tRn T 48 57 k i - q) q 0) := by
  intro k
  induction k with
  | zero =>
    intro i a hi hq qb e19 e21 hp
    have hi : i = T.1 := hi
    have q2 := qb.2.1
    refine ⟨aSI (aSI a 33 20 2) 33 22 (Int32.ofNat (i - q)), ?_, ⟨(rGo.rfl'.si (by decide)).si (by decide), by rw [pSI_of (by decide), pSI_of (by decide)], by rw [pSI_of (by decide), pSI_of (by decide)]⟩, ?_, ?_, pSI_at, ?_⟩
    · rw [c_Md_goes_187, e19, s_byteR qb (by omega), pCI, s_isDigit, pCI, if_neg (fun h => absurd ((tB_row (by decide)).mp h).1 (by omega)), if_pos rfl, e19, e21, pSubN hq]
    · rw [pSI_of (by decide), pSI_of (by decide), e19]
      rfl
    · rw [pSI_of (by decide), pSI_at]
    · rw [pSI_of (by decide), pSI_of (by decide)]
      exact hp
  | succ k ih =>
    intro i a hi hq qb e19 e21 hp
    have q2 := qb.2.1
    rw [tRn_n]
    by_cases h : i < T.1 ∧ 48 ≤ T.2 i ∧ T.2 i ≤ 57
    · rw [if_pos h]
      by_cases h8 : 4 ≤ i - q
      · obtain ⟨b, e, ⟨f, f1, f2⟩, g⟩ := ih (i + 1) (aSI a 33 19 (Int32.ofNat (i + 1))) (by omega) (by omega) (qb.go (rGo.rfl'.si (by decide))) pSI_at ((pSI_of (by decide)).trans e21) (fun hh => absurd hh (by omega))
        refine ⟨b, ?_, ⟨(rGo.rfl'.si (by decide)).trans f, f1.trans (pSI_of (by decide)), f2.trans (pSI_of (by decide))⟩, g⟩
        rw [c_Md_goes_187, e19, s_byteR qb (by omega), pCI, s_isDigit, pCI, if_pos ((tB_row (by decide)).mpr h), if_neg (by decide), e19, e21, pSubN hq, if_pos (show (4 : Int32) ≤ Int32.ofNat (i - q) from (pN_le (a := 4) (by decide) (by omega)).mpr h8), pN_s]
        exact e
      · obtain ⟨b, e, ⟨f, f1, f2⟩, g⟩ := ih (i + 1) (aSI (aSI a 33 23 (10 * a.1 33 23 + T.2 i - 48)) 33 19 (Int32.ofNat (i + 1))) (by omega) (by omega) (qb.go ((rGo.rfl'.si (by decide)).si (by decide))) pSI_at (((pSI_of (by decide)).trans (pSI_of (by decide))).trans e21) (fun hh => by
          rw [pSI_of (by decide), pSI_at, hp (by omega), show i + 1 - q = (i - q) + 1 by omega, tV_snoc, show q + (i - q) = i by omega, Int32.mul_comm])
        refine ⟨b, ?_, ⟨((rGo.rfl'.si (by decide)).si (by decide)).trans f, (f1.trans (pSI_of (by decide))).trans (pSI_of (by decide)), (f2.trans (pSI_of (by decide))).trans (pSI_of (by decide))⟩, g⟩
        rw [c_Md_goes_187, e19, s_byteR qb (by omega), pCI, s_isDigit, pCI, if_pos ((tB_row (by decide)).mpr h), if_neg (by decide), e19, e21, pSubN hq, if_neg (fun h : (4 : Int32) ≤ Int32.ofNat (i - q) => h8 ((pN_le (a := 4) (by decide) (by omega)).mp h)), s_byteR qb (by omega), pCI, tB_in h.1, e19, pN_s]
        exact e
    · rw [if_neg h]
      refine ⟨aSI (aSI a 33 20 2) 33 22 (Int32.ofNat (i - q)), ?_, ⟨(rGo.rfl'.si (by decide)).si (by decide), by rw [pSI_of (by decide), pSI_of (by decide)], by rw [pSI_of (by decide), pSI_of (by decide)]⟩, ?_, ?_, pSI_at, ?_⟩
      · rw [c_Md_goes_187, e19, s_byteR qb (by omega), pCI, s_isDigit, pCI, if_neg (fun h2 => h ((tB_row (by decide)).mp h2)), if_pos rfl, e19, e21, pSubN hq]
      · rw [pSI_of (by decide), pSI_of (by decide), e19]
      · rw [pSI_of (by decide), pSI_at]
      · rw [pSI_of (by decide), pSI_of (by decide)]
        exact hp
theorem s_goF (q : rB σ T) {a : Nat} (ha : a ≤ T.1) (e19 : σ.1 33 19 = Int32.ofNat a) : ∃ b, goF G (d + 1) σ = oV b ∧ rGo σ b ∧ rFl b T a := by
  have q2 := q.2.1
  have q1 := q.1
  obtain ⟨c, hc⟩ : ∃ c, c = aSI (aSI (aSL (aSI σ 33 21 (Int32.ofNat a)) 33 25 0) 33 23 0) 33 24 (tB T a) := ⟨_, rfl⟩
  have fc : rGo σ c := by
    rw [hc]
    exact (((rGo.rfl'.si (by decide)).sl).si (by decide)).si (by decide)
  have qc := q.go fc
  have c19 : c.1 33 19 = Int32.ofNat a := by
    rw [hc, pSI_of (by decide), pSI_of (by decide), pSL_1, pSI_of (by decide), e19]
  have c21 : c.1 33 21 = Int32.ofNat a := by
    rw [hc, pSI_of (by decide), pSI_of (by decide), pSL_1, pSI_at]
  have c24 : c.1 33 24 = tB T a := by
    rw [hc, pSI_at]
  have c23 : c.1 33 23 = 0 := by
    rw [hc, pSI_of (by decide), pSI_at]
  have c25 : c.2 33 25 = 0 := by
    rw [hc]
    show (aSL (aSI σ 33 21 (Int32.ofNat a)) 33 25 0).2 33 25 = 0
    exact pSL_at
  have qb0 : rB (aSI (aSL (aSI σ 33 21 (Int32.ofNat a)) 33 25 0) 33 23 0) T := q.go (((rGo.rfl'.si (by decide)).sl).si (by decide))
  have b18 : (aSI (aSL (aSI σ 33 21 (Int32.ofNat a)) 33 25 0) 33 23 0).1 33 18 = Int32.ofNat T.1 := qb0.1
  have b19 : (aSI (aSL (aSI σ 33 21 (Int32.ofNat a)) 33 25 0) 33 23 0).1 33 19 = Int32.ofNat a := by rw [pSI_of (by decide), pSL_1, pSI_of (by decide), e19]
  have b21 : (aSI (aSL (aSI σ 33 21 (Int32.ofNat a)) 33 25 0) 33 23 0).1 33 21 = Int32.ofNat a := by rw [pSI_of (by decide), pSL_1, pSI_at]
  unfold goF
  rw [e19, s_byteR qb0 (by omega), pCI, ← hc, b19, b18, b21]
  by_cases h : a < T.1
  · rw [if_pos (pGo' h (by omega)), s_isLetter, pCI, pB0, tB_in h]
    have k0 : ¬ tKq T a = 0 := fun e => absurd (tK0.mp e) (by omega)
    by_cases hw : 97 ≤ T.2 a ∧ T.2 a ≤ 122
    · have kq : tKq T a = 1 := tKq_1.mpr ⟨h, hw⟩
      have ee : tEq T a = tRn T 97 122 (T.1 - a) a := by
        unfold tEq
        rw [if_neg k0, if_pos kq]
      obtain ⟨b, e, ⟨f, f1, f2⟩, g19, g20, g22, g25⟩ := s_wordR (G := G) (d := d) (T := T) (q := a) (T.1 - a) a c (by omega) (Nat.le_refl a) qc c19 c21 (fun j h1 h2 => absurd h1 (by omega)) (fun _ => by rw [Nat.sub_self]; exact c25)
      rw [if_pos hw]
      refine ⟨b, e, fc.trans f, f1.trans c21, by rw [g20, kq]; rfl, by rw [g19, ee], by rw [g22, ee], f2.trans c24, fun e => by omega, fun _ hh => ?_⟩
      rw [ee] at hh ⊢
      exact g25 hh
    · rw [if_neg hw, s_isDigit, pCI, pB0]
      by_cases hd : 48 ≤ T.2 a ∧ T.2 a ≤ 57
      · have kq : tKq T a = 2 := by
          unfold tKq
          rw [if_neg (by omega), if_neg hw, if_pos hd]
        have ee : tEq T a = tRn T 48 57 (T.1 - a) a := by
          unfold tEq
          rw [if_neg k0, if_neg (by omega), if_pos kq]
        obtain ⟨b, e, ⟨f, f1, f2⟩, g19, g20, g22, g23⟩ := s_numR (G := G) (d := d) (T := T) (q := a) (T.1 - a) a c (by omega) (Nat.le_refl a) qc c19 c21 (fun _ => by rw [Nat.sub_self]; exact c23)
        rw [if_pos hd]
        refine ⟨b, e, fc.trans f, f1.trans c21, by rw [g20, kq]; rfl, by rw [g19, ee], by rw [g22, ee], f2.trans c24, fun _ hh => ?_, fun e => by omega⟩
        have hh' := hh
        rw [ee] at hh'
        unfold tNq
        rw [if_pos hh, ee]
        exact g23 hh'
      · rw [if_neg hd, c19, c21, pN_s]
        have kq : tKq T a = if T.2 a = 59 ∨ T.2 a = 40 ∨ T.2 a = 41 ∨ T.2 a = 43 ∨ T.2 a = 45 ∨ T.2 a = 42 ∨ T.2 a = 47 ∨ T.2 a = 60 ∨ T.2 a = 61 then 3 else 4 := by
          unfold tKq
          rw [if_neg (by omega), if_neg hw, if_neg hd]
        have eq1 : ¬ tKq T a = 1 ∧ ¬ tKq T a = 2 := by
          rw [kq]
          split <;> omega
        have ee : tEq T a = a + 1 := by
          unfold tEq
          rw [if_neg k0, if_neg eq1.1, if_neg eq1.2]
        have fin : ∀ (x : Int32), x = Int32.ofNat (tKq T a) → ∃ b, (some (.inl none, (aSI (aSI (aSI c 33 19 (Int32.ofNat (a + 1))) 33 20 x) 33 22 (Int32.ofNat (a + 1) - Int32.ofNat a))) : Option (aRs × aH)) = oV b ∧ rGo σ b ∧ rFl b T a := by
          intro x hx
          refine ⟨_, rfl, ((fc.si (by decide)).si (by decide)).si (by decide), ?_, ?_, ?_, ?_, ?_, fun e => absurd e eq1.2, fun e => absurd e eq1.1⟩
          · rw [pSI_of (by decide), pSI_of (by decide), pSI_of (by decide), c21]
          · rw [pSI_of (by decide), pSI_at, hx]
          · rw [pSI_of (by decide), pSI_of (by decide), pSI_at, ee]
          · rw [pSI_at, pSubN (by omega), ee]
          · rw [pSI_of (by decide), pSI_of (by decide), pSI_of (by decide), c24]
        have f3 : (T.2 a = 59 ∨ T.2 a = 40 ∨ T.2 a = 41 ∨ T.2 a = 43 ∨ T.2 a = 45 ∨ T.2 a = 42 ∨ T.2 a = 47 ∨ T.2 a = 60 ∨ T.2 a = 61) → (3 : Int32) = Int32.ofNat (tKq T a) := by
          intro hh
          rw [kq, if_pos hh]
          rfl
        by_cases h1 : T.2 a = 59
        · rw [if_pos h1]
          exact fin 3 (f3 (by rw [h1]; decide))
        rw [if_neg h1]
        by_cases h2 : T.2 a = 40
        · rw [if_pos h2]
          exact fin 3 (f3 (by rw [h2]; decide))
        rw [if_neg h2]
        by_cases h3 : T.2 a = 41
        · rw [if_pos h3]
          exact fin 3 (f3 (by rw [h3]; decide))
        rw [if_neg h3]
        by_cases h4 : T.2 a = 43
        · rw [if_pos h4]
          exact fin 3 (f3 (by rw [h4]; decide))
        rw [if_neg h4]
        by_cases h5 : T.2 a = 45
        · rw [if_pos h5]
          exact fin 3 (f3 (by rw [h5]; decide))
        rw [if_neg h5]
        by_cases h6 : T.2 a = 42
        · rw [if_pos h6]
          exact fin 3 (f3 (by rw [h6]; decide))
        rw [if_neg h6]
        by_cases h7 : T.2 a = 47
        · rw [if_pos h7]
          exact fin 3 (f3 (by rw [h7]; decide))
        rw [if_neg h7]
        by_cases h8 : T.2 a = 60
        · rw [if_pos h8]
          exact fin 3 (f3 (by rw [h8]; decide))
        rw [if_neg h8]
        by_cases h9 : T.2 a = 61
        · rw [if_pos h9]
          exact fin 3 (f3 (by rw [h9]; decide))
        rw [if_neg h9]
        refine fin 4 ?_
        rw [kq, if_neg (fun hh => by
          rcases hh with e | e | e | e | e | e | e | e | e
          · exact h1 e
          · exact h2 e
          · exact h3 e
          · exact h4 e
          · exact h5 e
          · exact h6 e
          · exact h7 e
          · exact h8 e
          · exact h9 e)]
        rfl
  · have k0 : tKq T a = 0 := tK0.mpr (by omega)
    have ee : tEq T a = a := if_pos k0
    rw [if_neg (fun h2 => h ((pN_lt (by omega) (by omega)).mp h2))]
    refine ⟨_, rfl, (fc.si (by decide)).si (by decide), ?_, ?_, ?_, ?_, ?_, fun e => by omega, fun e => by omega⟩
    · rw [pSI_of (by decide), pSI_of (by decide), c21]
    · rw [pSI_of (by decide), pSI_at, k0]
      rfl
    · rw [pSI_of (by decide), pSI_of (by decide), c19, ee]
    · rw [pSI_at, pSubN (Nat.le_refl a), ee]
    · rw [pSI_of (by decide), pSI_of (by decide), c24]
theorem s_goLoop : ∀ (k i : Nat) (a : aH), i + k = T.1 → rB a T → a.1 33 19 = Int32.ofNat i → ∃ b, Lq G (d + 1) M_63 (0, [some (.ref 33), none], [], a) = oV b ∧ rGo a b ∧ rFl b T (tSk T k i)
  | 0, i, a, hi, q, e19 => by
    have hi : i = T.1 := hi
    obtain ⟨b, e, f, g⟩ := s_goF (G := G) (d := d) q (show i ≤ T.1 by omega) e19
    refine ⟨b, ?_, f, g⟩
    rw [go_eq, q.1, e19, if_pos (by rw [hi]; exact pEnd), e]
  | k + 1, i, a, hi, q, e19 => by
    have q2 := q.2.1
    have hlt : i < T.1 := by omega
    obtain ⟨b, e, f, g⟩ := s_goF (G := G) (d := d) q (show i ≤ T.1 by omega) e19
    obtain ⟨c, e', f', g'⟩ := s_goLoop k (i + 1) (aSI a 33 19 (Int32.ofNat (i + 1))) (by omega) (q.go (rGo.rfl'.si (by decide))) pSI_at
    rw [go_eq, q.1, e19, if_neg (pGo hlt (by omega)), s_byteR q (by omega), pCI, tB_in hlt, e19, s_byteR q (by omega), pCI, tB_in hlt, e19, pN_s, tSk_n]
    by_cases h1 : T.2 i = 32
    · rw [if_pos h1, if_pos ⟨hlt, Or.inl h1⟩]
      exact ⟨c, e', (rGo.rfl'.si (by decide)).trans f', g'⟩
    · rw [if_neg h1]
      by_cases h2 : T.2 i = 10
      · rw [if_pos h2, if_pos ⟨hlt, Or.inr h2⟩]
        exact ⟨c, e', (rGo.rfl'.si (by decide)).trans f', g'⟩
      · rw [if_neg h2, if_neg (fun h => h.2.elim h1 h2)]
        exact ⟨b, e, f, g⟩
/-- a state of the reading -/
def RS (σ : aH) (T : Tx) (s : Nat × Nat) : Prop := rB σ T ∧ σ.1 33 16 = Int32.ofNat s.1 ∧ s.1 < 5 ∧ s.2 ≤ T.1 ∧ σ.1 33 17 = (if s.1 = 0 then -1 else Int32.ofNat (tQ T s.2)) ∧ rFl σ T (tQ T s.2)
/-- what a primitive of the reading leaves as it was -/
def rFr (σ σ' : aH) : Prop := pSame [33] σ σ' ∧ ∀ k, k < 16 ∨ k = 18 ∨ 25 < k → σ'.1 33 k = σ.1 33 k
theorem rFr.rfl' : rFr σ σ := ⟨pSame.rfl', fun _ _ => rfl⟩
theorem rFr.trans {a b : aH} (f : rFr σ a) (g : rFr a b) : rFr σ b := ⟨f.1.trans g.1, fun k hk => (g.2 k hk).trans (f.2 k hk)⟩
theorem rGo.fr {a : aH} (f : rGo σ a) : rFr σ a := ⟨f.1, fun k hk => f.2 k (by omega)⟩
theorem RS.z {s : Nat × Nat} (q : RS σ T s) : σ.1 33 16 = 0 ↔ s.1 = 0 := by
  rw [q.2.1]
  exact pEqL (c := 0) (n := 0) rfl (by decide) (by have := q.2.2.1; omega)
theorem RS.same {s : Nat × Nat} {a : aH} (q : RS σ T s) (h33 : ∀ k, 16 ≤ k → k ≤ 25 → a.1 33 k = σ.1 33 k) (hl : a.2 33 25 = σ.2 33 25) (h41 : a.1 41 = σ.1 41) : RS a T s := by
  unfold RS rB rFl
  rw [h33 16 (by decide) (by decide), h33 17 (by decide) (by decide), h33 18 (by decide) (by decide), h33 19 (by decide) (by decide), h33 20 (by decide) (by decide), h33 21 (by decide) (by decide), h33 22 (by decide) (by decide), h33 23 (by decide) (by decide), h33 24 (by decide) (by decide), hl, h41]
  exact q
theorem s_good {s : Nat × Nat} (q : RS σ T s) : Rn G (d + 1) 67 [.ref 33] σ = oI (if s.1 = 0 then 1 else 0) σ := by
  rw [e_Md_isGood]
  by_cases h : s.1 = 0
  · rw [if_pos (q.z.mpr h), if_pos h]
  · rw [if_neg (fun h2 => h (q.z.mp h2)), if_neg h]
theorem s_goes0 (q : rB σ T) (e16 : σ.1 33 16 = 0) (e17 : σ.1 33 17 = -1) {a : Nat} (ha : a ≤ T.1) (e19 : σ.1 33 19 = Int32.ofNat a) : ∃ b, Rn G (d + 2) 63 [.ref 33] σ = oV b ∧ rFr σ b ∧ RS b T (0, a) := by
  obtain ⟨b, e, f, g⟩ := s_goLoop (G := G) (d := d) (T := T) (T.1 - a) a σ (by omega) q e19
  refine ⟨b, by rw [e_Md_goes, e], f.fr, q.go f, (f.2 16 (Or.inl (by decide))).trans e16, (by decide : 0 < 5), ha, ?_, g⟩
  exact (f.2 17 (Or.inl (by decide))).trans e17
theorem s_goes {s : Nat × Nat} (q : RS σ T s) (h0 : s.1 = 0) : ∃ b, Rn G (d + 2) 63 [.ref 33] σ = oV b ∧ rFr σ b ∧ RS b T (0, tE T s.2) := by
  obtain ⟨s1, s2⟩ := s
  have h0 : s1 = 0 := h0
  subst h0
  obtain ⟨q1, q2, q3, q4, q5, q6⟩ := q
  have le : tQ T s2 ≤ tE T s2 ∧ tE T s2 ≤ T.1 ∧ s2 ≤ tE T s2 := tE_le q4
  exact s_goes0 q1 q2 q5 le.2.1 q6.2.2.1
theorem s_wrong {s : Nat × Nat} (q : RS σ T s) {x : Int32} {c : Nat} (hx : x = Int32.ofNat c) (hc : c < 5) (c0 : 0 < c) : ∃ b, Rn G (d + 1) 73 [.ref 33, .int x] σ = oV b ∧ rFr σ b ∧ RS b T (mFail c s) := by
  obtain ⟨s1, s2⟩ := s
  rw [e_Md_wrong]
  by_cases h : s1 = 0
  · subst h
    refine ⟨aSI (aSI σ 33 16 x) 33 17 (σ.1 33 21), by rw [if_pos (q.z.mpr rfl)], ⟨(pSame.rfl'.si (by decide)).si (by decide), fun k hk => (pSI_of (by omega)).trans (pSI_of (by omega))⟩, ?_⟩
    obtain ⟨q1, q2, q3, q4, q5, q6⟩ := q
    have e : ∀ k, k ≠ 16 → k ≠ 17 → (aSI (aSI σ 33 16 x) 33 17 (σ.1 33 21)).1 33 k = σ.1 33 k := fun k h1 h2 => (pSI_of h2).trans (pSI_of h1)
    have e41 : (aSI (aSI σ 33 16 x) 33 17 (σ.1 33 21)).1 41 = σ.1 41 := by rw [pSI_ne (by decide), pSI_ne (by decide)]
    unfold RS rB rFl
    rw [e 18 (by decide) (by decide), e 19 (by decide) (by decide), e 20 (by decide) (by decide), e 21 (by decide) (by decide), e 22 (by decide) (by decide), e 23 (by decide) (by decide), e 24 (by decide) (by decide), e41]
    refine ⟨q1, ?_, hc, q4, ?_, q6⟩
    · rw [pSI_of (by decide), pSI_at, hx]
      rfl
    · rw [pSI_at, q6.1, if_neg (show ¬ (mFail c (0, s2)).1 = 0 from fun e => by have : c = 0 := e; omega)]
      rfl
  · refine ⟨σ, by rw [if_neg (fun h2 => h (q.z.mp h2))], rFr.rfl', ?_⟩
    rw [show mFail c (s1, s2) = (s1, s2) from if_neg h]
    exact q
end PRef
