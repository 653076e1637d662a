/-! ===== tokens ===== -/
abbrev Tx : Type := Nat × (Nat → Int32)
def tSk (T : Tx) : Nat → Nat → Nat
  | 0, i => i
  | k + 1, i => if i < T.1 ∧ (T.2 i = 32 ∨ T.2 i = 10) then tSk T k (i + 1) else i
theorem tSk_n (T : Tx) (k i : Nat) : tSk T (k + 1) i = if i < T.1 ∧ (T.2 i = 32 ∨ T.2 i = 10) then tSk T k (i + 1) else i := rfl
def tRn (T : Tx) (lo hi : Int32) : Nat → Nat → Nat
  | 0, i => i
  | k + 1, i => if i < T.1 ∧ lo ≤ T.2 i ∧ T.2 i ≤ hi then tRn T lo hi k (i + 1) else i
theorem tRn_n (T : Tx) (lo hi : Int32) (k i : Nat) : tRn T lo hi (k + 1) i = if i < T.1 ∧ lo ≤ T.2 i ∧ T.2 i ≤ hi then tRn T lo hi k (i + 1) else i := rfl
theorem tSk_ge (T : Tx) : ∀ k i, i ≤ tSk T k i ∧ tSk T k i ≤ i + k
  | 0, i => ⟨Nat.le_refl i, Nat.le_refl i⟩
  | k + 1, i => by
    rw [tSk_n]
    split
    · have := tSk_ge T k (i + 1)
      omega
    · omega
theorem tRn_ge (T : Tx) (lo hi : Int32) : ∀ k i, i ≤ tRn T lo hi k i ∧ tRn T lo hi k i ≤ i + k
  | 0, i => ⟨Nat.le_refl i, Nat.le_refl i⟩
  | k + 1, i => by
    rw [tRn_n]
    split
    · have := tRn_ge T lo hi k (i + 1)
      omega
    · omega
def tQ (T : Tx) (p : Nat) : Nat := tSk T (T.1 - p) p
def tKq (T : Tx) (q : Nat) : Nat := if T.1 ≤ q then 0 else if 97 ≤ T.2 q ∧ T.2 q ≤ 122 then 1 else if 48 ≤ T.2 q ∧ T.2 q ≤ 57 then 2 else if T.2 q = 59 ∨ T.2 q = 40 ∨ T.2 q = 41 ∨ T.2 q = 43 ∨ T.2 q = 45 ∨ T.2 q = 42 ∨ T.2 q = 47 ∨ T.2 q = 60 ∨ T.2 q = 61 then 3 else 4
def tEq (T : Tx) (q : Nat) : Nat := if tKq T q = 0 then q else if tKq T q = 1 then tRn T 97 122 (T.1 - q) q else if tKq T q = 2 then tRn T 48 57 (T.1 - q) q else q + 1
def tV (T : Tx) : Nat → Nat → Int32 → Int32
  | 0, _, v => v
  | k + 1, i, v => tV T k (i + 1) (v * 10 + T.2 i - 48)
theorem tV_n (T : Tx) (k i : Nat) (v : Int32) : tV T (k + 1) i v = tV T k (i + 1) (v * 10 + T.2 i - 48) := rfl
def tNq (T : Tx) (q : Nat) : Int32 := if tEq T q - q ≤ 4 then tV T (tEq T q - q) q 0 else 10000
def tK (T : Tx) (p : Nat) : Nat := tKq T (tQ T p)
def tE (T : Tx) (p : Nat) : Nat := tEq T (tQ T p)
def tN (T : Tx) (p : Nat) : Int32 := tNq T (tQ T p)
def tB (T : Tx) (i : Nat) : Int32 := if i < T.1 then T.2 i else 0
theorem tQ_le {T : Tx} {p : Nat} (h : p ≤ T.1) : p ≤ tQ T p ∧ tQ T p ≤ T.1 := by
  have := tSk_ge T (T.1 - p) p
  unfold tQ
  omega
theorem tKq_lt (T : Tx) (q : Nat) : tKq T q < 5 := by
  unfold tKq
  repeat' split
  all_goals omega
theorem tK0 {T : Tx} {q : Nat} : tKq T q = 0 ↔ T.1 ≤ q := by
  unfold tKq
  constructor
  · intro h
    by_cases h1 : T.1 ≤ q
    · exact h1
    · rw [if_neg h1] at h
      repeat' split at h
      all_goals omega
  · intro h
    rw [if_pos h]
theorem tEq_le {T : Tx} {q : Nat} (h : q ≤ T.1) : q ≤ tEq T q ∧ tEq T q ≤ T.1 := by
  unfold tEq
  by_cases h0 : tKq T q = 0
  · rw [if_pos h0]
    exact ⟨Nat.le_refl q, h⟩
  · have h1 : ¬ T.1 ≤ q := fun e => h0 (tK0.mpr e)
    rw [if_neg h0]
    have a := tRn_ge T 97 122 (T.1 - q) q
    have b := tRn_ge T 48 57 (T.1 - q) q
    split
    · omega
    · split <;> omega
theorem tE_le {T : Tx} {p : Nat} (h : p ≤ T.1) : tQ T p ≤ tE T p ∧ tE T p ≤ T.1 ∧ p ≤ tE T p := by
  have a := tQ_le h
  have b := tEq_le a.2
  unfold tE
  omega
theorem tKq_1 {T : Tx} {q : Nat} : tKq T q = 1 ↔ q < T.1 ∧ 97 ≤ T.2 q ∧ T.2 q ≤ 122 := by
  unfold tKq
  by_cases h0 : T.1 ≤ q
  · rw [if_pos h0]
    constructor <;> intro h <;> omega
  · rw [if_neg h0]
    by_cases h1 : 97 ≤ T.2 q ∧ T.2 q ≤ 122
    · rw [if_pos h1]
      exact ⟨fun _ => ⟨by omega, h1⟩, fun _ => rfl⟩
    · rw [if_neg h1]
      constructor
      · intro h
        repeat' split at h
        all_goals omega
      · intro h
        exact absurd h.2 h1
theorem tKq_2 {T : Tx} {q : Nat} (h : tKq T q = 2) : q < T.1 ∧ 48 ≤ T.2 q ∧ T.2 q ≤ 57 := by
  unfold tKq at h
  by_cases h0 : T.1 ≤ q
  · rw [if_pos h0] at h
    omega
  · rw [if_neg h0] at h
    by_cases h1 : 97 ≤ T.2 q ∧ T.2 q ≤ 122
    · rw [if_pos h1] at h
      omega
    · rw [if_neg h1] at h
      by_cases h2 : 48 ≤ T.2 q ∧ T.2 q ≤ 57
      · exact ⟨by omega, h2⟩
      · rw [if_neg h2] at h
        split at h <;> omega
theorem tEq_gt {T : Tx} {q : Nat} (h : q < T.1) : q < tEq T q := by
  have h0 : ¬ tKq T q = 0 := fun e => absurd (tK0.mp e) (by omega)
  unfold tEq
  rw [if_neg h0]
  by_cases h1 : tKq T q = 1
  · rw [if_pos h1, show T.1 - q = (T.1 - q - 1) + 1 by omega, tRn_n, if_pos (tKq_1.mp h1)]
    have := tRn_ge T 97 122 (T.1 - q - 1) (q + 1)
    omega
  · rw [if_neg h1]
    by_cases h2 : tKq T q = 2
    · rw [if_pos h2, show T.1 - q = (T.1 - q - 1) + 1 by omega, tRn_n, if_pos (tKq_2 h2)]
      have := tRn_ge T 48 57 (T.1 - q - 1) (q + 1)
      omega
    · rw [if_neg h2]
      omega
theorem tE_gt {T : Tx} {p : Nat} (h : p ≤ T.1) (h0 : tK T p ≠ 0) : p < tE T p := by
  have a := tQ_le h
  have b : tQ T p < T.1 := by
    have : ¬ T.1 ≤ tQ T p := fun e => h0 (tK0.mpr e)
    omega
  have c := tEq_gt b
  unfold tE
  omega
section PTok
variable {G : Nat × (Nat → Int32)} {d : Nat} {σ : aH} {T : Tx}
/-- the class's text -/
def cB (σ : aH) (T : Tx) : Prop := σ.1 1 6 = Int32.ofNat T.1 ∧ T.1 ≤ 700 ∧ ∀ i, i < T.1 → σ.1 2 i &&& 255 = T.2 i
theorem and255 (x : Int32) : ∃ k, k < 256 ∧ x &&& 255 = Int32.ofNat k := by
  refine ⟨(x &&& 255).toBitVec.toNat, ?_, ?_⟩
  · rw [Int32.toBitVec_and, BitVec.toNat_and]
    have h : (Int32.toBitVec 255).toNat = 255 := rfl
    have := Nat.and_le_right (n := x.toBitVec.toNat) (m := (Int32.toBitVec 255).toNat)
    omega
  · apply Int32.toBitVec_inj.mp
    rw [Int32.toBitVec_ofNat', BitVec.ofNat_toNat]
    exact (BitVec.setWidth_eq _).symm
theorem cB.rng (q : cB σ T) {i : Nat} (h : i < T.1) : ∃ k, k < 256 ∧ T.2 i = Int32.ofNat k := by
  obtain ⟨k, hk, e⟩ := and255 (σ.1 2 i)
  exact ⟨k, hk, (q.2.2 i h).symm.trans e⟩
theorem cB.same {σ' : aH} (q : cB σ T) (h6 : σ'.1 1 6 = σ.1 1 6) (h2 : σ'.1 2 = σ.1 2) : cB σ' T := by
  unfold cB
  rw [h6, h2]
  exact q
theorem s_byteC (q : cB σ T) {i : Nat} (hi : i < 2147483648) : Rn G (d + 1) 9 [.ref 1, .int (Int32.ofNat i)] σ = oI (tB T i) σ := by
  obtain ⟨q1, q2, q3⟩ := q
  rw [e_Rh_Tape_byteAt, if_neg (pN_n0 hi), q1]
  unfold tB
  by_cases h : i < T.1
  · rw [if_neg (pGo h (by omega)), if_neg (pGoL (c := 700) (n := 700) rfl (by omega) (by decide)), pIx (by omega) (by decide), q3 i h, if_pos h]
  · rw [if_pos ((pN_le (by omega) hi).mpr (by omega)), if_neg h]
theorem tB_in {i : Nat} (h : i < T.1) : tB T i = T.2 i := if_pos h
/-- a stretch of one sort of letters -/
theorem s_passRow {lo hi : Int32} {q0 : Nat} : ∀ (k i : Nat) (a : aH), i + k = T.1 → cB a T → a.1 1 7 = Int32.ofNat i → ∃ b, Lq G (d + 1) M_10 (5, [some (.ref 1), some (.int lo), some (.int hi), some (.int (Int32.ofNat i))], [], a) = oV b ∧ pSame [1] a b ∧ b.1 1 7 = Int32.ofNat (tRn T lo hi k i) ∧ ∀ j, j ≠ 7 → b.1 1 j = a.1 1 j
  | 0, i, a, hi', q, e7 => by
    have hi' : i = T.1 := hi'
    refine ⟨a, ?_, pSame.rfl', e7, fun _ _ => rfl⟩
    rw [c_Rh_Tape_passRow_5, q.1, hi', if_pos pEnd]
  | k + 1, i, a, hi', q, e7 => by
    have q2 := q.2.1
    have hlt : i < T.1 := by omega
    rw [c_Rh_Tape_passRow_5, q.1, if_neg (pGo hlt (by omega)), s_byteC q (by omega), pCI, tB_in hlt, tRn_n]
    by_cases h1 : T.2 i < lo
    · rw [if_pos h1, if_neg (fun h => absurd h1 (pNotLt.mpr h.2.1))]
      exact ⟨a, rfl, pSame.rfl', e7, fun _ _ => rfl⟩
    · rw [if_neg h1, s_byteC q (by omega), pCI, tB_in hlt]
      by_cases h2 : hi < T.2 i
      · rw [if_pos h2, if_neg (fun h => absurd h2 (pNotLt.mpr h.2.2))]
        exact ⟨a, rfl, pSame.rfl', e7, fun _ _ => rfl⟩
      · rw [if_neg h2, if_pos ⟨hlt, pNotLt.mp h1, pNotLt.mp h2⟩, pN_s]
        obtain ⟨b, e, f, g, n⟩ := s_passRow (lo := lo) (hi := hi) (q0 := q0) k (i + 1) (aSI a 1 7 (Int32.ofNat (i + 1))) (by omega) (q.same (pSI_of (by decide)) (pSI_ne (by decide))) pSI_at
        exact ⟨b, e, (pSame.rfl'.si (by decide)).trans f, g, fun j hj => (n j hj).trans (pSI_of hj)⟩
/-- the number of a stretch of digits: up to four of them, or 10000 -/
theorem s_tellNumber (q : cB σ T) {a e : Nat} (ha : a ≤ e) (he : e ≤ T.1) (e3 : σ.1 1 3 = Int32.ofNat a) (e7 : σ.1 1 7 = Int32.ofNat e) : ∃ b, Rn G (d + 2) 11 [.ref 1] σ = oV b ∧ pSame [1] σ b ∧ b.1 1 5 = (if e - a ≤ 4 then tV T (e - a) a 0 else 10000) ∧ ∀ j, j ≠ 5 → b.1 1 j = σ.1 1 j := by
  have q2 := q.2.1
  rw [e_Rh_Tape_tellNumber, e3]
  have lp : ∀ (k i : Nat) (s : aH) (v : Int32), i + k = min e (a + 4) → a ≤ i → pSame [1] σ s → s.1 1 5 = v → (∀ j, j ≠ 5 → s.1 1 j = σ.1 1 j) → ∃ b, Lq G (d + 1) M_11 (10, [some (.ref 1), some (.int (Int32.ofNat i))], [], s) = (if (Int32.ofNat e - Int32.ofNat a) ≤ 4 then oV b else oV (aSI b 1 5 10000)) ∧ pSame [1] σ b ∧ b.1 1 5 = tV T k i v ∧ ∀ j, j ≠ 5 → b.1 1 j = σ.1 1 j := by
    intro k
    induction k with
    | zero =>
      intro i s v hi hai f h5 hj
      have hi : i = min e (a + 4) := hi
      refine ⟨s, ?_, f, h5, hj⟩
      rw [c_Rh_Tape_tellNumber_10, hj 7 (by decide), hj 3 (by decide), e3, e7, pA4]
      by_cases h : e ≤ i
      · rw [if_pos ((pN_le (by omega) (by omega)).mpr h)]
      · rw [if_neg (fun h2 => h ((pN_le (by omega) (by omega)).mp h2)), if_pos ((pN_le (by omega) (by omega)).mpr (by omega))]
    | succ k ih =>
      intro i s v hi hai f h5 hj
      have qs : cB s T := q.same (hj 6 (by decide)) (f.at (by decide))
      have hlt : i < T.1 := by omega
      obtain ⟨b, e1, e2, e4, e5⟩ := ih (i + 1) (aSI s 1 5 (v * 10 + T.2 i - 48)) (v * 10 + T.2 i - 48) (by omega) (by omega) (f.si (by decide)) pSI_at (fun j h => (pSI_of h).trans (hj j h))
      refine ⟨b, ?_, e2, by rw [tV_n]; exact e4, e5⟩
      rw [c_Rh_Tape_tellNumber_10, hj 7 (by decide), hj 3 (by decide), e3, e7, pA4, if_neg (fun h2 => absurd ((pN_le (by omega) (by omega)).mp h2) (by omega)), if_neg (fun h2 => absurd ((pN_le (by omega) (by omega)).mp h2) (by omega)), s_byteC qs (by omega), pCI, tB_in hlt, h5, pN_s]
      exact e1
  obtain ⟨b, e1, e2, e4, e5⟩ := lp (min e (a + 4) - a) a (aSI σ 1 5 0) 0 (by omega) (Nat.le_refl a) (pSame.rfl'.si (by decide)) pSI_at (fun j h => pSI_of h)
  by_cases h : e - a ≤ 4
  · refine ⟨b, ?_, e2, ?_, e5⟩
    · rw [e1, pSubN ha, if_pos (show Int32.ofNat (e - a) ≤ 4 from (pN_le (b := 4) (by omega) (by decide)).mpr h)]
    · rw [e4, if_pos h, show min e (a + 4) - a = e - a by omega]
  · refine ⟨aSI b 1 5 10000, ?_, e2.si (by decide), ?_, fun j hj => (pSI_of hj).trans (e5 j hj)⟩
    · rw [e1, pSubN ha, if_neg (fun h2 : Int32.ofNat (e - a) ≤ 4 => h ((pN_le (b := 4) (by omega) (by decide)).mp h2))]
    · rw [pSI_at, if_neg h]
/-- where a letter stands in a string; -1 -/
def mIx (S : List Int32) (v : Int32) : Nat → Nat → Int32
  | 0, _ => -1
  | k + 1, j => if S.getD j 0 = v then Int32.ofNat j else mIx S v k (j + 1)
theorem mIx_n (S : List Int32) (v : Int32) (k j : Nat) : mIx S v (k + 1) j = if S.getD j 0 = v then Int32.ofNat j else mIx S v k (j + 1) := rfl
theorem b8_all_0 : ∀ k : Fin 128, (Int32.ofNat (0 + k.val)).toInt8.toInt32 = if (0 + k.val) < 128 then Int32.ofNat (0 + k.val) else Int32.ofNat (0 + k.val) - 256 := by decide
theorem b8_all_1 : ∀ k : Fin 128, (Int32.ofNat (128 + k.val)).toInt8.toInt32 = if (128 + k.val) < 128 then Int32.ofNat (128 + k.val) else Int32.ofNat (128 + k.val) - 256 := by decide
theorem b8_all (k : Nat) (hk : k < 256) : (Int32.ofNat k).toInt8.toInt32 = if k < 128 then Int32.ofNat k else Int32.ofNat k - 256 := by
  by_cases h0 : k < 128
  · have e := b8_all_0 ⟨k - 0, by omega⟩
    have e2 : 0 + (k - 0) = k := by omega
    rw [show 0 + (⟨k - 0, by omega⟩ : Fin 128).val = k from e2] at e
    exact e
  have e := b8_all_1 ⟨k - 128, by omega⟩
  have e2 : 128 + (k - 128) = k := by omega
  rw [show 128 + (⟨k - 128, by omega⟩ : Fin 128).val = k from e2] at e
  exact e
theorem b8_eq {k j : Nat} (hk : k < 256) (hj : j < 128) : Int32.ofNat j = (Int32.ofNat k).toInt8.toInt32 ↔ Int32.ofNat j = Int32.ofNat k := by
  rw [b8_all k hk]
  by_cases h : k < 128
  · rw [if_pos h]
  · rw [if_neg h]
    have e2 : (256 : Int32).toInt = 256 := rfl
    have e : (Int32.ofNat k - 256).toInt = (k : Int) - 256 := by
      rw [pI_sub (by rw [pN_int (by omega), e2]; omega) (by rw [pN_int (by omega), e2]; omega), pN_int (by omega), e2]
    constructor
    · intro h2
      have h3 := congrArg Int32.toInt h2
      rw [e, pN_int (by omega)] at h3
      omega
    · intro h2
      have := (pN_eq (by omega) (by omega)).mp h2
      omega
theorem s_indexLoop {r : Nat} {S : List Int32} (hS : S.length < 100) (hr : tkd G.1 G.2 (r + 1) = .inr (.inr (.inl (1, S.length, fun k => S.getD k 0)))) (h128 : ∀ j, j < S.length → ∃ k, k < 128 ∧ S.getD j 0 = Int32.ofNat k) {n : Nat} (hn : n < 256) : ∀ (k j : Nat), j + k = S.length → Lq G d M_21 (7, [some (.ref (r + 1)), none, none, some (.int (Int32.ofNat S.length)), some (.int (Int32.ofNat n).toInt8.toInt32), some (.int (Int32.ofNat j))], [], σ) = oI (mIx S (Int32.ofNat n) k j) σ
  | 0, j, hj => by
    have hj : j = S.length := hj
    rw [c_StringLatin1_indexOfChar_7, hj, if_pos pEnd]
    rfl
  | k + 1, j, hj => by
    have IH := s_indexLoop hS hr h128 hn k (j + 1) (by omega)
    obtain ⟨c, hc, ec⟩ := h128 j (by omega)
    rw [c_StringLatin1_indexOfChar_7, if_neg (pGo (show j < S.length by omega) (by omega))]
    unfold aArB
    rw [hr]
    show (aIx (Int32.ofNat j) S.length fun j1 => if S.getD j1 0 = (Int32.ofNat n).toInt8.toInt32 then oI (Int32.ofNat j) σ else Lq G d M_21 (7, [some (.ref (r + 1)), none, none, some (.int (Int32.ofNat S.length)), some (.int (Int32.ofNat n).toInt8.toInt32), some (.int (Int32.ofNat j + 1))], [], σ)) = _
    rw [pIx (by omega) (by omega), mIx_n, pN_s, IH, ec]
    by_cases h : Int32.ofNat c = Int32.ofNat n
    · rw [if_pos ((b8_eq hn hc).mpr h), if_pos h]
    · rw [if_neg (fun h2 => h ((b8_eq hn hc).mp h2)), if_neg h]
theorem s_index17 {r : Nat} {S : List Int32} (hS : S.length < 100) (h0 : 0 < S.length) (hr : tkd G.1 G.2 (r + 1) = .inr (.inr (.inl (1, S.length, fun k => S.getD k 0)))) (h128 : ∀ j, j < S.length → ∃ k, k < 128 ∧ S.getD j 0 = Int32.ofNat k) {n : Nat} (hn : n < 256) : Rn G (d + 2) 17 [.ref (r + 1), .int (Int32.ofNat n), .int 0, .int (Int32.ofNat S.length)] σ = oI (mIx S (Int32.ofNat n) S.length 0) σ := by
  rw [e_StringLatin1_indexOf, e_StringLatin1_canEncode, if_neg (pN_n0 (by omega)), if_neg (pLB (c := 255) (b := 255) rfl (by omega) (by decide)), pCI, if_neg (by decide), e_Math_max_0, if_neg (by decide), pCI]
  unfold aLen
  rw [hr]
  show aCI (Rn G (d + 1) 20 [.int (Int32.ofNat S.length), .int (Int32.ofNat S.length)] σ) (fun v7 σ6 => if (0 : Int32) < v7 then aCI (Rn G (d + 1) 21 [.ref (r + 1), .int (Int32.ofNat n), .int 0, .int v7] σ6) fun v9 σ8 => oI v9 σ8 else oI (-1) σ6) = _
  have e := s_indexLoop (G := G) (d := d) (σ := σ) hS hr h128 hn S.length 0 (Nat.zero_add _)
  have e' : Lq G d M_21 (7, [some (.ref (r + 1)), none, none, some (.int (Int32.ofNat S.length)), some (.int (Int32.ofNat n).toInt8.toInt32), some (.int 0)], [], σ) = oI (mIx S (Int32.ofNat n) S.length 0) σ := e
  rw [e_Math_min, if_neg Int32.lt_irrefl, pCI, if_pos (show (0 : Int32) < Int32.ofNat S.length from (pN_lt (a := 0) (by decide) (by omega)).mpr h0), e_StringLatin1_indexOfChar, e', pCI]
theorem l128_126 : ∀ j, j < st_126.length → ∃ k, k < 128 ∧ st_126.getD j 0 = Int32.ofNat k := fun j hj => ⟨_, (sl_126 ⟨j, hj⟩).2, (sl_126 ⟨j, hj⟩).1.symm⟩
theorem l128_112 : ∀ j, j < st_112.length → ∃ k, k < 128 ∧ st_112.getD j 0 = Int32.ofNat k := fun j hj => ⟨_, (sl_112 ⟨j, hj⟩).2, (sl_112 ⟨j, hj⟩).1.symm⟩
theorem s_index126 {n : Nat} (hn : n < 256) : Rn G (d + 5) 12 [.ref 126, .int (Int32.ofNat n)] σ = oI (mIx st_126 (Int32.ofNat n) 9 0) σ := by
  have e : Rn G (d + 3) 17 [.ref 127, .int (Int32.ofNat n), .int 0, .int (Int32.ofNat st_126.length)] σ = oI (mIx st_126 (Int32.ofNat n) st_126.length 0) σ := s_index17 (d := d + 1) (r := 126) (by decide) (by decide) rfl l128_126 hn
  rw [e_String_indexOf_0_126, e_String_indexOf_1_126, e_String_isLatin1_126, if_neg (by decide), if_pos rfl, pCI, if_neg (by decide), so_126.1, pCI, e, pCI, pCI]
  rfl
theorem s_index112 {n : Nat} (hn : n < 256) : Rn G (d + 5) 12 [.ref 112, .int (Int32.ofNat n)] σ = oI (mIx st_112 (Int32.ofNat n) 6 0) σ := by
  have e : Rn G (d + 3) 17 [.ref 113, .int (Int32.ofNat n), .int 0, .int (Int32.ofNat st_112.length)] σ = oI (mIx st_112 (Int32.ofNat n) st_112.length 0) σ := s_index17 (d := d + 1) (r := 112) (by decide) (by decide) rfl l128_112 hn
  rw [e_String_indexOf_0_112, e_String_indexOf_1_112, e_String_isLatin1_112, if_neg (by decide), if_pos rfl, pCI, if_neg (by decide), so_112.1, pCI, e, pCI, pCI]
  rfl
theorem chr_all_0 : ∀ k : Fin 128, ((Int32.ofNat (0 + k.val)).toUInt32 % 65536).toInt32 = Int32.ofNat (0 + k.val) := by decide
theorem chr_all_1 : ∀ k : Fin 128, ((Int32.ofNat (128 + k.val)).toUInt32 % 65536).toInt32 = Int32.ofNat (128 + k.val) := by decide
theorem chr_all (k : Nat) (hk : k < 256) : ((Int32.ofNat k).toUInt32 % 65536).toInt32 = Int32.ofNat k := by
  by_cases h0 : k < 128
  · have e := chr_all_0 ⟨k - 0, by omega⟩
    have e2 : 0 + (k - 0) = k := by omega
    rw [show 0 + (⟨k - 0, by omega⟩ : Fin 128).val = k from e2] at e
    exact e
  have e := chr_all_1 ⟨k - 128, by omega⟩
  have e2 : 128 + (k - 128) = k := by omega
  rw [show 128 + (⟨k - 128, by omega⟩ : Fin 128).val = k from e2] at e
  exact e
/-- which letters are signs -/
theorem sg_all_0 : ∀ k : Fin 64, (mIx st_126 (Int32.ofNat (0 + k.val)) 9 0 < 0 ↔ ¬ (Int32.ofNat (0 + k.val) = 59 ∨ Int32.ofNat (0 + k.val) = 40 ∨ Int32.ofNat (0 + k.val) = 41 ∨ Int32.ofNat (0 + k.val) = 43 ∨ Int32.ofNat (0 + k.val) = 45 ∨ Int32.ofNat (0 + k.val) = 42 ∨ Int32.ofNat (0 + k.val) = 47 ∨ Int32.ofNat (0 + k.val) = 60 ∨ Int32.ofNat (0 + k.val) = 61)) := by decide
theorem sg_all_1 : ∀ k : Fin 64, (mIx st_126 (Int32.ofNat (64 + k.val)) 9 0 < 0 ↔ ¬ (Int32.ofNat (64 + k.val) = 59 ∨ Int32.ofNat (64 + k.val) = 40 ∨ Int32.ofNat (64 + k.val) = 41 ∨ Int32.ofNat (64 + k.val) = 43 ∨ Int32.ofNat (64 + k.val) = 45 ∨ Int32.ofNat (64 + k.val) = 42 ∨ Int32.ofNat (64 + k.val) = 47 ∨ Int32.ofNat (64 + k.val) = 60 ∨ Int32.ofNat (64 + k.val) = 61)) := by decide
theorem sg_all_2 : ∀ k : Fin 64, (mIx st_126 (Int32.ofNat (128 + k.val)) 9 0 < 0 ↔ ¬ (Int32.ofNat (128 + k.val) = 59 ∨ Int32.ofNat (128 + k.val) = 40 ∨ Int32.ofNat (128 + k.val) = 41 ∨ Int32.ofNat (128 + k.val) = 43 ∨ Int32.ofNat (128 + k.val) = 45 ∨ Int32.ofNat (128 + k.val) = 42 ∨ Int32.ofNat (128 + k.val) = 47 ∨ Int32.ofNat (128 + k.val) = 60 ∨ Int32.ofNat (128 + k.val) = 61)) := by decide
theorem sg_all_3 : ∀ k : Fin 64, (mIx st_126 (Int32.ofNat (192 + k.val)) 9 0 < 0 ↔ ¬ (Int32.ofNat (192 + k.val) = 59 ∨ Int32.ofNat (192 + k.val) = 40 ∨ Int32.ofNat (192 + k.val) = 41 ∨ Int32.ofNat (192 + k.val) = 43 ∨ Int32.ofNat (192 + k.val) = 45 ∨ Int32.ofNat (192 + k.val) = 42 ∨ Int32.ofNat (192 + k.val) = 47 ∨ Int32.ofNat (192 + k.val) = 60 ∨ Int32.ofNat (192 + k.val) = 61)) := by decide
theorem sg_all (k : Nat) (hk : k < 256) : (mIx st_126 (Int32.ofNat k) 9 0 < 0 ↔ ¬ (Int32.ofNat k = 59 ∨ Int32.ofNat k = 40 ∨ Int32.ofNat k = 41 ∨ Int32.ofNat k = 43 ∨ Int32.ofNat k = 45 ∨ Int32.ofNat k = 42 ∨ Int32.ofNat k = 47 ∨ Int32.ofNat k = 60 ∨ Int32.ofNat k = 61)) := by
  by_cases h0 : k < 64
  · have e := sg_all_0 ⟨k - 0, by omega⟩
    have e2 : 0 + (k - 0) = k := by omega
    rw [show 0 + (⟨k - 0, by omega⟩ : Fin 64).val = k from e2] at e
    exact e
  by_cases h1 : k < 128
  · have e := sg_all_1 ⟨k - 64, by omega⟩
    have e2 : 64 + (k - 64) = k := by omega
    rw [show 64 + (⟨k - 64, by omega⟩ : Fin 64).val = k from e2] at e
    exact e
  by_cases h2 : k < 192
  · have e := sg_all_2 ⟨k - 128, by omega⟩
    have e2 : 128 + (k - 128) = k := by omega
    rw [show 128 + (⟨k - 128, by omega⟩ : Fin 64).val = k from e2] at e
    exact e
  have e := sg_all_3 ⟨k - 192, by omega⟩
  have e2 : 192 + (k - 192) = k := by omega
  rw [show 192 + (⟨k - 192, by omega⟩ : Fin 64).val = k from e2] at e
  exact e
/-- a token's place, sort, end, number -/
def cFl (σ : aH) (T : Tx) (q : Nat) : Prop := σ.1 1 3 = Int32.ofNat q ∧ σ.1 1 4 = Int32.ofNat (tKq T q) ∧ σ.1 1 7 = Int32.ofNat (tEq T q) ∧ (tKq T q = 2 → σ.1 1 5 = tNq T q)
theorem s_advF (q : cB σ T) {a : Nat} (ha : a ≤ T.1) (e7 : σ.1 1 7 = Int32.ofNat a) : ∃ b, advF G (d + 6) σ = oV b ∧ pSame [1] σ b ∧ cFl b T a ∧ b.1 1 2 = σ.1 1 2 ∧ b.1 1 6 = σ.1 1 6 := by
  have q2 := q.2.1
  have q' : cB (aSI σ 1 3 (Int32.ofNat a)) T := q.same (pSI_of (by decide)) (pSI_ne (by decide))
  unfold advF
  have q6 := q.1
  rw [e7, s_byteC q' (by omega), pCI, pSI_at, pSI_of (by decide)]
  by_cases h : a < T.1
  · rw [if_pos (show Int32.ofNat a < σ.1 1 6 by rw [q6]; exact pGo' h (by omega)), tB_in h]
    obtain ⟨k, hk, ek⟩ := q.rng h
    have kc : ¬ tKq T a = 0 := fun e => absurd (tK0.mp e) (by omega)
    -- a sign, or something else
    have sg : ∀ (n1 : ¬ (97 ≤ T.2 a ∧ T.2 a ≤ 122)) (n2 : ¬ (48 ≤ T.2 a ∧ T.2 a ≤ 57)), ∃ b, (aCI (Rn G (d + 6) 12 [.ref 126, .int ((T.2 a).toUInt32 % 65536).toInt32] (aSI σ 1 3 (Int32.ofNat a))) fun v4 σ3 => if v4 < 0 then (some (.inl none, (aSI (aSI σ3 1 4 (4 : Int32)) 1 7 ((σ3.1 1 3) + (1 : Int32)))) : Option (aRs × aH)) else some (.inl none, (aSI (aSI σ3 1 4 (3 : Int32)) 1 7 ((σ3.1 1 3) + (1 : Int32))))) = oV b ∧ pSame [1] σ b ∧ cFl b T a ∧ b.1 1 2 = σ.1 1 2 ∧ b.1 1 6 = σ.1 1 6 := by
      intro n1 n2
      have kq : tKq T a = if T.2 a = 59 ∨ T.2 a = 40 ∨ T.2 a = 41 ∨ T.2 a = 43 ∨ T.2 a = 45 ∨ T.2 a = 42 ∨ T.2 a = 47 ∨ T.2 a = 60 ∨ T.2 a = 61 then 3 else 4 := by
        unfold tKq
        rw [if_neg (by omega), if_neg n1, if_neg n2]
      have eq1 : ¬ tKq T a = 1 ∧ ¬ tKq T a = 2 := by
        rw [kq]
        split <;> omega
      have ee : tEq T a = a + 1 := by
        unfold tEq
        rw [if_neg kc, if_neg eq1.1, if_neg eq1.2]
      rw [ek, chr_all k hk, s_index126 (d := d + 1) hk, pCI, pSI_at, pN_s]
      have hs := sg_all k hk
      rw [ek] at kq
      by_cases h1 : mIx st_126 (Int32.ofNat k) 9 0 < 0
      · rw [if_neg (hs.mp h1)] at kq
        refine ⟨aSI (aSI (aSI σ 1 3 (Int32.ofNat a)) 1 4 4) 1 7 (Int32.ofNat (a + 1)), by rw [if_pos h1], ((pSame.rfl'.si (by decide)).si (by decide)).si (by decide), ⟨?_, ?_, ?_, fun e => absurd e eq1.2⟩, ?_, ?_⟩
        · rw [pSI_of (by decide), pSI_of (by decide), pSI_at]
        · rw [pSI_of (by decide), pSI_at, kq]
          rfl
        · rw [pSI_at, ee]
        · rw [pSI_of (by decide), pSI_of (by decide), pSI_of (by decide)]
        · rw [pSI_of (by decide), pSI_of (by decide), pSI_of (by decide)]
      · have hp : Int32.ofNat k = 59 ∨ Int32.ofNat k = 40 ∨ Int32.ofNat k = 41 ∨ Int32.ofNat k = 43 ∨ Int32.ofNat k = 45 ∨ Int32.ofNat k = 42 ∨ Int32.ofNat k = 47 ∨ Int32.ofNat k = 60 ∨ Int32.ofNat k = 61 := Decidable.not_not.mp fun h2 => h1 (hs.mpr h2)
        rw [if_pos hp] at kq
        refine ⟨aSI (aSI (aSI σ 1 3 (Int32.ofNat a)) 1 4 3) 1 7 (Int32.ofNat (a + 1)), by rw [if_neg h1], ((pSame.rfl'.si (by decide)).si (by decide)).si (by decide), ⟨?_, ?_, ?_, fun e => absurd e eq1.2⟩, ?_, ?_⟩
        · rw [pSI_of (by decide), pSI_of (by decide), pSI_at]
        · rw [pSI_of (by decide), pSI_at, kq]
          rfl
        · rw [pSI_at, ee]
        · rw [pSI_of (by decide), pSI_of (by decide), pSI_of (by decide)]
        · rw [pSI_of (by decide), pSI_of (by decide), pSI_of (by decide)]
    have rowp : ∀ (kd lo hi : Int32), ∃ b, Rn G (d + 6) 10 [.ref 1, .int lo, .int hi] (aSI (aSI σ 1 3 (Int32.ofNat a)) 1 4 kd) = oV b ∧ pSame [1] σ b ∧ b.1 1 7 = Int32.ofNat (tRn T lo hi (T.1 - a) a) ∧ b.1 1 3 = Int32.ofNat a ∧ b.1 1 4 = kd ∧ b.1 1 2 = σ.1 1 2 ∧ b.1 1 6 = σ.1 1 6 := by
      intro kd lo hi
      have q3 : cB (aSI (aSI σ 1 3 (Int32.ofNat a)) 1 4 kd) T := q'.same (pSI_of (by decide)) (pSI_ne (by decide))
      obtain ⟨b, e1, f, g, n⟩ := s_passRow (G := G) (d := d + 4) (T := T) (lo := lo) (hi := hi) (q0 := 0) (T.1 - a) a (aSI (aSI σ 1 3 (Int32.ofNat a)) 1 4 kd) (by omega) q3 (by rw [pSI_of (by decide), pSI_of (by decide), e7])
      refine ⟨b, ?_, ((pSame.rfl'.si (by decide)).si (by decide)).trans f, g, ?_, ?_, ?_, ?_⟩
      · rw [e_Rh_Tape_passRow, pSI_of (by decide), pSI_at, e1]
      · rw [n 3 (by decide), pSI_of (by decide), pSI_at]
      · rw [n 4 (by decide), pSI_at]
      · rw [n 2 (by decide), pSI_of (by decide), pSI_of (by decide)]
      · rw [n 6 (by decide), pSI_of (by decide), pSI_of (by decide)]
    have dg : 48 ≤ T.2 a → T.2 a ≤ 57 → ¬ (97 ≤ T.2 a ∧ T.2 a ≤ 122) → ∃ b, (aCV (Rn G (d + 6) 10 [.ref 1, .int (48 : Int32), .int (57 : Int32)] (aSI (aSI σ 1 3 (Int32.ofNat a)) 1 4 (2 : Int32))) fun σ7 => aCV (Rn G (d + 6) 11 [.ref 1] σ7) fun σ8 => (some (.inl none, σ8) : Option (aRs × aH))) = oV b ∧ pSame [1] σ b ∧ cFl b T a ∧ b.1 1 2 = σ.1 1 2 ∧ b.1 1 6 = σ.1 1 6 := by
      intro d1 d2 n1
      have kq : tKq T a = 2 := by
        unfold tKq
        rw [if_neg (by omega), if_neg n1, if_pos ⟨d1, d2⟩]
      have ee : tEq T a = tRn T 48 57 (T.1 - a) a := by
        unfold tEq
        rw [if_neg kc, if_neg (by omega), if_pos kq]
      obtain ⟨b, e1, f1, g7, g3, g4, g2, g6⟩ := rowp 2 48 57
      have le := tRn_ge T 48 57 (T.1 - a) a
      obtain ⟨c, e2, f2, g5, n⟩ := s_tellNumber (G := G) (d := d + 4) (q.same g6 (f1.at (by decide))) (a := a) (e := tRn T 48 57 (T.1 - a) a) le.1 (by omega) g3 g7
      refine ⟨c, by rw [e1, pCV, e2, pCV], f1.trans f2, ⟨?_, ?_, ?_, fun _ => ?_⟩, ?_, ?_⟩
      · rw [n 3 (by decide), g3]
      · rw [n 4 (by decide), g4, kq]
        rfl
      · rw [n 7 (by decide), g7, ee]
      · rw [g5]
        unfold tNq
        rw [ee]
      · rw [n 2 (by decide), g2]
      · rw [n 6 (by decide), g6]
    by_cases h1 : T.2 a < 97
    · rw [if_pos h1]
      have n1 : ¬ (97 ≤ T.2 a ∧ T.2 a ≤ 122) := fun e => absurd h1 (pNotLt.mpr e.1)
      by_cases h2 : T.2 a < 48
      · rw [if_pos h2]
        exact sg n1 (fun e => absurd h2 (pNotLt.mpr e.1))
      · rw [if_neg h2]
        by_cases h3 : 57 < T.2 a
        · rw [if_pos h3]
          exact sg n1 (fun e => absurd h3 (pNotLt.mpr e.2))
        · rw [if_neg h3]
          exact dg (pNotLt.mp h2) (pNotLt.mp h3) n1
    · rw [if_neg h1]
      by_cases h4 : 122 < T.2 a
      · rw [if_pos h4]
        have n1 : ¬ (97 ≤ T.2 a ∧ T.2 a ≤ 122) := fun e => absurd h4 (pNotLt.mpr e.2)
        by_cases h2 : T.2 a < 48
        · rw [if_pos h2]
          exact sg n1 (fun e => absurd h2 (pNotLt.mpr e.1))
        · rw [if_neg h2]
          by_cases h3 : 57 < T.2 a
          · rw [if_pos h3]
            exact sg n1 (fun e => absurd h3 (pNotLt.mpr e.2))
          · rw [if_neg h3]
            exact dg (pNotLt.mp h2) (pNotLt.mp h3) n1
      · rw [if_neg h4]
        have kq : tKq T a = 1 := tKq_1.mpr ⟨h, pNotLt.mp h1, pNotLt.mp h4⟩
        have ee : tEq T a = tRn T 97 122 (T.1 - a) a := by
          unfold tEq
          rw [if_neg kc, if_pos kq]
        obtain ⟨b, e1, f1, g7, g3, g4, g2, g6⟩ := rowp 1 97 122
        refine ⟨b, by rw [e1, pCV], f1, ⟨g3, by rw [g4, kq]; rfl, by rw [g7, ee], fun e => by omega⟩, g2, g6⟩
  · have k0 : tKq T a = 0 := tK0.mpr (by omega)
    have ee : tEq T a = a := if_pos k0
    rw [if_neg (show ¬ Int32.ofNat a < σ.1 1 6 by rw [q6]; exact fun h2 => h ((pN_lt (by omega) (by omega)).mp h2))]
    refine ⟨aSI (aSI σ 1 3 (Int32.ofNat a)) 1 4 0, rfl, (pSame.rfl'.si (by decide)).si (by decide), ⟨?_, ?_, ?_, fun e => by omega⟩, ?_, ?_⟩
    · rw [pSI_of (by decide), pSI_at]
    · rw [pSI_at, k0]
      rfl
    · rw [pSI_of (by decide), pSI_of (by decide), e7, ee]
    · rw [pSI_of (by decide), pSI_of (by decide)]
    · rw [pSI_of (by decide), pSI_of (by decide)]
theorem s_advLoop : ∀ (k i : Nat) (a : aH), i + k = T.1 → cB a T → a.1 1 7 = Int32.ofNat i → ∃ b, Lq G (d + 6) M_8 (13, [some (.ref 1), some (.int (Int32.ofNat i))], [], a) = oV b ∧ pSame [1] a b ∧ cFl b T (tSk T k i) ∧ b.1 1 2 = a.1 1 2 ∧ b.1 1 6 = a.1 1 6
  | 0, i, a, hi, q, e7 => by
    have hi : i = T.1 := hi
    obtain ⟨b, e, f, g⟩ := s_advF (G := G) (d := d) q (show i ≤ T.1 by omega) e7
    refine ⟨b, ?_, f, g⟩
    have q6 := q.1
    rw [adv_eq, if_pos (show a.1 1 6 ≤ Int32.ofNat i by rw [q6, hi]; exact pEnd), e]
  | k + 1, i, a, hi, q, e7 => by
    have q2 := q.2.1
    have hlt : i < T.1 := by omega
    obtain ⟨b, e, f, g⟩ := s_advF (G := G) (d := d) q (show i ≤ T.1 by omega) e7
    obtain ⟨c, e', f', g', h2', h6'⟩ := s_advLoop k (i + 1) (aSI a 1 7 (Int32.ofNat (i + 1))) (by omega) (q.same (pSI_of (by decide)) (pSI_ne (by decide))) pSI_at
    have q6 := q.1
    rw [adv_eq, if_neg (show ¬ a.1 1 6 ≤ Int32.ofNat i by rw [q6]; exact pGo hlt (by omega)), s_byteC q (by omega), pCI, tB_in hlt, s_byteC q (by omega), pCI, tB_in hlt, pN_s, tSk_n]
    by_cases h1 : T.2 i = 32
    · rw [if_pos h1, if_pos ⟨hlt, Or.inl h1⟩]
      exact ⟨c, e', (pSame.rfl'.si (by decide)).trans f', g', h2'.trans (pSI_of (σ := a) (a := 1) (j := 7) (k := 2) (by decide)), h6'.trans (pSI_of (σ := a) (a := 1) (j := 7) (k := 6) (by decide))⟩
    · rw [if_neg h1]
      by_cases h2 : T.2 i = 10
      · rw [if_pos h2, if_pos ⟨hlt, Or.inr h2⟩]
        exact ⟨c, e', (pSame.rfl'.si (by decide)).trans f', g', h2'.trans (pSI_of (σ := a) (a := 1) (j := 7) (k := 2) (by decide)), h6'.trans (pSI_of (σ := a) (a := 1) (j := 7) (k := 6) (by decide))⟩
      · rw [if_neg h2, if_neg (fun h => h.2.elim h1 h2)]
        exact ⟨b, e, f, g⟩
/-- a state of the reading: which fault (0: none), where the token's stretch begins -/
def CS (σ : aH) (T : Tx) (s : Nat × Nat) : Prop := cB σ T ∧ σ.1 1 2 = Int32.ofNat s.1 ∧ s.1 < 5 ∧ s.2 ≤ T.1 ∧ cFl σ T (tQ T s.2)
def mAdv (T : Tx) (s : Nat × Nat) : Nat × Nat := if s.1 = 0 then (0, tE T s.2) else s
def mFail (c : Nat) (s : Nat × Nat) : Nat × Nat := if s.1 = 0 then (c, s.2) else s
theorem CS.f0 {s : Nat × Nat} (q : CS σ T s) {P : Prop} {_ : Decidable P} (e : P = (σ.1 1 2 = 0)) : P ↔ s.1 = 0 := by
  rw [e, q.2.1]
  exact pEqL (c := 0) (n := 0) rfl (by decide) (by have := q.2.2.1; omega)
theorem CS.z {s : Nat × Nat} (q : CS σ T s) : σ.1 1 2 = 0 ↔ s.1 = 0 := by
  rw [q.2.1]
  exact pEqL (c := 0) (n := 0) rfl (by decide) (by have := q.2.2.1; omega)
theorem CS.ps {s : Nat × Nat} {σ' : aH} {os : List Nat} (q : CS σ T s) (f : pSame os σ σ') (h1 : 1 ∉ os) (h2 : 2 ∉ os) : CS σ' T s := by
  unfold CS cB cFl
  rw [f.at h1, f.at h2]
  exact q
theorem s_adv {s : Nat × Nat} (q : CS σ T s) : ∃ b, Rn G (d + 7) 8 [.ref 1] σ = oV b ∧ pSame [1] σ b ∧ CS b T (mAdv T s) := by
  obtain ⟨s1, s2⟩ := s
  have q' := q
  obtain ⟨qb, q2, q3, q4, q5⟩ := q'
  have q4 : s2 ≤ T.1 := q4
  rw [e_Rh_Tape_advance]
  by_cases h : s1 = 0
  · subst h
    have le : tQ T s2 ≤ tE T s2 ∧ tE T s2 ≤ T.1 ∧ s2 ≤ tE T s2 := tE_le q4
    obtain ⟨b, e, f, g, g2, g6⟩ := s_advLoop (G := G) (d := d) (T := T) (T.1 - tE T s2) (tE T s2) σ (by omega) qb q5.2.2.1
    have e7 : σ.1 1 7 = Int32.ofNat (tE T s2) := q5.2.2.1
    refine ⟨b, ?_, f, qb.same g6 (f.at (by decide)), ?_, (by decide : 0 < 5), ?_, ?_⟩
    · rw [if_pos (q.z.mpr rfl), e7, e]
    · rw [g2, q2]
      rfl
    · exact le.2.1
    · exact g
  · refine ⟨σ, by rw [if_neg (fun h2 => h (q.z.mp h2))], pSame.rfl', ?_⟩
    rw [show mAdv T (s1, s2) = (s1, s2) from if_neg h]
    exact q
theorem s_fail {s : Nat × Nat} (q : CS σ T s) {x : Int32} {c : Nat} (hx : x = Int32.ofNat c) (hc : c < 5) : ∃ b, Rn G (d + 1) 30 [.ref 1, .int x] σ = oV b ∧ pSame [1] σ b ∧ CS b T (mFail c s) := by
  obtain ⟨s1, s2⟩ := s
  rw [e_Rh_Tape_fail]
  by_cases h : s1 = 0
  · subst h
    refine ⟨aSI σ 1 2 x, by rw [if_pos (q.z.mpr rfl)], pSame.rfl'.si (by decide), ?_⟩
    obtain ⟨qb, q2, q3, q4, q5⟩ := q
    obtain ⟨a3, a4, a7, a5⟩ := q5
    refine ⟨qb.same (pSI_of (by decide)) (pSI_ne (by decide)), by rw [pSI_at, hx]; rfl, hc, q4, ?_⟩
    exact ⟨(pSI_of (by decide)).trans a3, (pSI_of (by decide)).trans a4, (pSI_of (by decide)).trans a7, fun e => (pSI_of (by decide)).trans (a5 e)⟩
  · refine ⟨σ, by rw [if_neg (fun h2 => h (q.z.mp h2))], pSame.rfl', ?_⟩
    rw [show mFail c (s1, s2) = (s1, s2) from if_neg h]
    exact q
end PTok
