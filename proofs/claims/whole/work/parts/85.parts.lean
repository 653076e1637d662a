/-! ===== bounds of what is foretold ===== -/
theorem pDivB' {a b : Int64} {c : Int} (h0 : 0 ≤ a.toInt) (hb : 0 < b.toInt) (h : a.toInt ≤ c * b.toInt) (hc : c < 2147483648) : pBd (a / b).toInt32 0 c := by
  have hq0 : 0 ≤ a.toInt / b.toInt := Int.ediv_nonneg h0 (by omega)
  have hq1 : a.toInt / b.toInt ≤ c := by
    have h1 : a.toInt / b.toInt ≤ (c * b.toInt) / b.toInt := Int.ediv_le_ediv hb h
    rw [Int.mul_ediv_cancel _ (by omega)] at h1
    exact h1
  have e : (a / b).toInt = a.toInt / b.toInt := by
    rw [Int64.toInt_div, Int.tdiv_eq_ediv_of_nonneg h0]
    exact Int.bmod_eq_of_le (by simp; omega) (by simp; omega)
  have e2 : (a / b).toInt32.toInt = a.toInt / b.toInt := by
    rw [Int64.toInt_toInt32, e]
    exact Int.bmod_eq_of_le (by simp; omega) (by simp; omega)
  unfold pBd
  rw [e2]
  exact ⟨hq0, hq1⟩
theorem pI_div {x y : Int32} (hx : 0 ≤ x.toInt) (hy : 0 < y.toInt) : (x / y).toInt = x.toInt / y.toInt := by
  have h1 := Int.ediv_nonneg hx (Int.le_of_lt hy)
  have h2 := Int.ediv_le_self y.toInt hx
  have h3 := Int32.toInt_lt x
  have h4 : (2 : Int) ^ 31 = 2147483648 := by decide
  rw [h4] at h3
  rw [Int32.toInt_div, Int.tdiv_eq_ediv_of_nonneg hx]
  exact Int.bmod_eq_of_le (by simp; omega) (by simp; omega)
theorem pDrift_bd {H : Nat → Int32} {x : Int32} (hr : pHr H) (hx : pBd x 0 1000000) : pBd (pDrift H x) 0 999 := by
  obtain ⟨⟨s0, s1⟩, ⟨j0, j1⟩, _, _, _, ⟨w0, w1⟩, ⟨f0, f1⟩, _⟩ := hr
  obtain ⟨x0, x1⟩ := hx
  unfold pDrift
  by_cases h2 : H 12 = 2
  · rw [if_pos h2]
    have m := pMulB (x := (H 6).toInt) (y := (H 5).toInt) (a := 999) (b := 100) f0 f1 w0 w1
    have e := pI_mul (a := H 6) (b := H 5) (by omega) (by omega)
    have e9 : (100 : Int32).toInt = 100 := rfl
    have e2 := pI_div (x := H 6 * H 5) (y := 100) (by rw [e]; omega) (by rw [e9]; omega)
    rw [e, e9] at e2
    unfold pBd
    rw [e2]
    omega
  · rw [if_neg h2]
    have e6 : (1000000 : Int64).toInt = 1000000 := rfl
    have m1 := pMulB (x := (H 6).toInt) (y := (H 1).toInt) (a := 999) (b := 99) f0 f1 (by omega) j1
    have m2 := pMulB (x := (H 6).toInt * (H 1).toInt) (y := (H 1).toInt) (a := 98901) (b := 99) m1.1 (by omega) (by omega) j1
    have m3 := pMulB (x := (H 6).toInt * (H 1).toInt * (H 1).toInt) (y := x.toInt) (a := 9791199) (b := 1000000) m2.1 (by omega) x0 x1
    have a1 : ((H 6).toInt64 * (H 1).toInt64).toInt = (H 6).toInt * (H 1).toInt := by
      rw [pL_mul (by rw [Int32.toInt_toInt64, Int32.toInt_toInt64]; omega) (by rw [Int32.toInt_toInt64, Int32.toInt_toInt64]; omega), Int32.toInt_toInt64, Int32.toInt_toInt64]
    have a2 : ((H 6).toInt64 * (H 1).toInt64 * (H 1).toInt64).toInt = (H 6).toInt * (H 1).toInt * (H 1).toInt := by
      rw [pL_mul (by rw [a1, Int32.toInt_toInt64]; omega) (by rw [a1, Int32.toInt_toInt64]; omega), a1, Int32.toInt_toInt64]
    have a3 : ((H 6).toInt64 * (H 1).toInt64 * (H 1).toInt64 * x.toInt64).toInt = (H 6).toInt * (H 1).toInt * (H 1).toInt * x.toInt := by
      rw [pL_mul (by rw [a2, Int32.toInt_toInt64]; omega) (by rw [a2, Int32.toInt_toInt64]; omega), a2, Int32.toInt_toInt64]
    have q1 := pSqL (x := H 1) (by omega) (by omega)
    have q2 := pSqL (x := H 0) (by omega) (by omega)
    have q3 := pSq1 (x := (H 1).toInt) j0
    have a4 : ((H 1).toInt64 * (H 1).toInt64 + (H 0).toInt64 * (H 0).toInt64).toInt = (H 1).toInt * (H 1).toInt + (H 0).toInt * (H 0).toInt := by
      rw [pL_add (by rw [q1.1, q2.1]; omega) (by rw [q1.1, q2.1]; omega), q1.1, q2.1]
    have a5 : (((H 1).toInt64 * (H 1).toInt64 + (H 0).toInt64 * (H 0).toInt64) * 1000000).toInt = ((H 1).toInt * (H 1).toInt + (H 0).toInt * (H 0).toInt) * 1000000 := by
      rw [pL_mul (by rw [a4, e6]; omega) (by rw [a4, e6]; omega), a4, e6]
    have t1 : (H 6).toInt * (H 1).toInt * (H 1).toInt ≤ 999 * ((H 1).toInt * (H 1).toInt) := by
      rw [Int.mul_assoc]
      exact Int.mul_le_mul_of_nonneg_right f1 q1.2.1
    have t2 := (pMulB (x := (H 6).toInt * (H 1).toInt * (H 1).toInt) (y := x.toInt) (a := 999 * ((H 1).toInt * (H 1).toInt)) (b := 1000000) m2.1 t1 x0 x1).2
    exact pDivB' (c := 999) (by rw [a3]; exact m3.1) (by rw [a5]; omega) (by rw [a3, a5]; omega) (by decide)
theorem pStart_bd {x : Int32} (hx : pBd x 0 1000000) : pBd (100 * x / 1000000) 0 100 := by
  obtain ⟨x0, x1⟩ := hx
  have e9 : (100 : Int32).toInt = 100 := rfl
  have e6 : (1000000 : Int32).toInt = 1000000 := rfl
  have e : (100 * x).toInt = 100 * x.toInt := by
    rw [pI_mul (by rw [e9]; omega) (by rw [e9]; omega), e9]
  have e2 := pI_div (x := 100 * x) (y := 1000000) (by rw [e]; omega) (by rw [e6]; omega)
  rw [e, e6] at e2
  unfold pBd
  rw [e2]
  omega
theorem pAns_bd {x y : Int32} {b : Int} (hx : pBd x 0 b) (hy : y.toInt = b) (h1 : 0 < b) (h2 : b ≤ 1000000) : pBd (6 * x / y - 3) (-3) 3 := by
  obtain ⟨x0, x1⟩ := hx
  have e9 : (6 : Int32).toInt = 6 := rfl
  have e3 : (3 : Int32).toInt = 3 := rfl
  have e : (6 * x).toInt = 6 * x.toInt := by
    rw [pI_mul (by rw [e9]; omega) (by rw [e9]; omega), e9]
  have e2 := pI_div (x := 6 * x) (y := y) (by rw [e]; omega) (by rw [hy]; omega)
  rw [e, hy] at e2
  have q0 : 0 ≤ 6 * x.toInt / b := Int.ediv_nonneg (by omega) (by omega)
  have q1 : 6 * x.toInt / b ≤ 6 := by
    have h3 : 6 * x.toInt / b ≤ 6 * b / b := Int.ediv_le_ediv h1 (by omega)
    rw [Int.mul_ediv_cancel _ (by omega)] at h3
    exact h3
  unfold pBd
  rw [pI_sub (by rw [e2, e3]; omega) (by rw [e2, e3]; omega), e2, e3]
  omega
theorem pTell_line {H : Nat → Int32} (hr : pHr H) {c : Nat} (hc : c < 12) {sd : Bool} : pBd (pTell H c sd) (-3) 3 := by
  unfold pTell
  rw [if_neg (by omega), if_neg (by omega), if_neg (by omega)]
  have hh := pHeld_bd hr
  obtain ⟨_, _, _, _, b4, b5, _⟩ := hr
  by_cases h : sd = true
  · rw [if_pos h]
    exact pAns_bd b4 rfl (by decide) (by decide)
  · rw [if_neg h]
    unfold pFelt
    by_cases h1 : H 10 = 1
    · rw [if_pos h1]
      exact pAns_bd b5 rfl (by decide) (by decide)
    · rw [if_neg h1]
      exact pAns_bd hh rfl (by decide) (by decide)
/-! ===== the least of some; -1 where there is none ===== -/
def pMn (a b : Int32) : Int32 := if a = -1 then b else if b = -1 then a else if a ≤ b then a else b
theorem pMn_1 (b : Int32) : pMn (-1) b = b := if_pos rfl
theorem pMn_2 (a : Int32) : pMn a (-1) = a := by
  unfold pMn
  by_cases h : a = -1
  · rw [if_pos h, h]
  · rw [if_neg h, if_pos rfl]
theorem pMn_3 {a b : Int32} (ha : ¬ a = -1) (hb : ¬ b = -1) : pMn a b = if a ≤ b then a else b := by
  unfold pMn
  rw [if_neg ha, if_neg hb]
theorem pMn_le {a b : Int32} (ha : ¬ a = -1) (hb : ¬ b = -1) (h : a ≤ b) : pMn a b = a := by
  rw [pMn_3 ha hb, if_pos h]
theorem pMn_ge {a b : Int32} (ha : ¬ a = -1) (hb : ¬ b = -1) (h : b ≤ a) : pMn a b = b := by
  rw [pMn_3 ha hb]
  by_cases h2 : a ≤ b
  · rw [if_pos h2, Int32.le_antisymm h2 h]
  · rw [if_neg h2]
theorem pLeT {a b : Int32} : a ≤ b ∨ b ≤ a := by
  rw [pLe, pLe]
  omega
theorem pMn_comm (a b : Int32) : pMn a b = pMn b a := by
  by_cases ha : a = -1
  · rw [ha, pMn_1, pMn_2]
  · by_cases hb : b = -1
    · rw [hb, pMn_1, pMn_2]
    · rcases pLeT (a := a) (b := b) with h | h
      · rw [pMn_le ha hb h, pMn_ge hb ha h]
      · rw [pMn_ge ha hb h, pMn_le hb ha h]
theorem pMn_assoc (a b c : Int32) : pMn (pMn a b) c = pMn a (pMn b c) := by
  by_cases ha : a = -1
  · rw [ha, pMn_1, pMn_1]
  · by_cases hb : b = -1
    · rw [hb, pMn_1, pMn_2]
    · by_cases hc : c = -1
      · rw [hc, pMn_2, pMn_2]
      · rcases pLeT (a := a) (b := b) with h | h
        · rcases pLeT (a := b) (b := c) with h2 | h2
          · rw [pMn_le ha hb h, pMn_le hb hc h2, pMn_le ha hb h, pMn_le ha hc (Int32.le_trans h h2)]
          · rw [pMn_le ha hb h, pMn_ge hb hc h2]
        · rcases pLeT (a := b) (b := c) with h2 | h2
          · rw [pMn_ge ha hb h, pMn_le hb hc h2, pMn_ge ha hb h]
          · rw [pMn_ge ha hb h, pMn_ge hb hc h2, pMn_ge ha hc (Int32.le_trans h2 h)]
def pM (h : Nat → Int32) : Nat → Int32
  | 0 => -1
  | n + 1 => pMn (pM h n) (h n)
theorem pM_succ (h : Nat → Int32) (n : Nat) : pM h (n + 1) = pMn (pM h n) (h n) := rfl
theorem pM_congr {h g : Nat → Int32} : ∀ n, (∀ i, i < n → h i = g i) → pM h n = pM g n
  | 0, _ => rfl
  | n + 1, q => by
    rw [pM_succ, pM_succ, pM_congr n (fun i hi => q i (by omega)), q n (by omega)]
theorem pM_op {h g : Nat → Int32} : ∀ n, pM (fun i => pMn (h i) (g i)) n = pMn (pM h n) (pM g n)
  | 0 => rfl
  | n + 1 => by
    rw [pM_succ, pM_succ, pM_succ, pM_op n]
    generalize pM h n = A
    generalize pM g n = B
    rw [pMn_assoc A B, ← pMn_assoc B (h n) (g n), pMn_comm B (h n), pMn_assoc (h n) B (g n), ← pMn_assoc A (h n)]
theorem pFo_min {h : Nat → Int32} : ∀ (k i : Nat) (a : Int32), pFo (fun j a => pMn a (h j)) k i a = pMn a (pM (fun t => h (i + t)) k)
  | 0, _, a => (pMn_2 a).symm
  | k + 1, i, a => by
    rw [pFo_snoc, pFo_min k i a, pM_succ, pMn_assoc]
theorem pFo_min0 {h : Nat → Int32} (n : Nat) (a : Int32) : pFo (fun j a => pMn a (h j)) n 0 a = pMn a (pM h n) := by
  rw [pFo_min]
  rw [pM_congr (g := h) n (fun i _ => by rw [Nat.zero_add])]
def pMc (g : Nat → Nat → Int32) (n : Nat) : Int32 := pM (fun i => pM (fun t => g i (i + 1 + t)) (n - (i + 1))) n
theorem pMc_succ (g : Nat → Nat → Int32) (n : Nat) : pMc g (n + 1) = pMn (pMc g n) (pM (fun i => g i n) n) := by
  show pMn (pM (fun i => pM (fun t => g i (i + 1 + t)) (n + 1 - (i + 1))) n) (pM (fun t => g n (n + 1 + t)) (n + 1 - (n + 1))) = _
  rw [Nat.sub_self, show pM (fun t => g n (n + 1 + t)) 0 = -1 from rfl, pMn_2]
  unfold pMc
  rw [← pM_op]
  refine pM_congr n fun i hi => ?_
  rw [show n + 1 - (i + 1) = n - (i + 1) + 1 by omega, pM_succ, show i + 1 + (n - (i + 1)) = n by omega]
theorem pM_zero (h : Nat → Int32) : pM h 0 = -1 := rfl
theorem pMc_eq {g f : Nat → Nat → Int32} (hg : ∀ i j, g i j = f j i) : ∀ n, pMc g n = pM (fun a => pM (fun b => f a b) a) n
  | 0 => by
    unfold pMc
    rw [pM_zero, pM_zero]
  | n + 1 => by
    rw [pMc_succ, pM_succ, pMc_eq hg n, pM_congr (h := fun i => g i n) (g := fun b => f n b) n (fun i _ => hg i n)]
theorem pM_good {h : Nat → Int32} : ∀ n, (∀ i, i < n → h i = -1 ∨ 0 ≤ h i) → pM h n = -1 ∨ 0 ≤ pM h n
  | 0, _ => Or.inl rfl
  | n + 1, q => by
    have a := pM_good n fun i hi => q i (by omega)
    have b := q n (by omega)
    rw [pM_succ]
    generalize pM h n = x at a
    generalize h n = y at b
    unfold pMn
    split
    · exact b
    · split
      · exact a
      · split
        · exact a
        · exact b
theorem pS_bd {f : Nat → Int32} {B : Int} (hB0 : 0 ≤ B) : ∀ n : Nat, (∀ i, i < n → pBd (f i) 0 B) → B * (n : Int) < 2147483648 → pBd (pS f n) 0 (B * (n : Int))
  | 0, _, _ => ⟨(by decide : (0 : Int) ≤ (0 : Int32).toInt), by
    rw [Int.natCast_zero, Int.mul_zero]
    exact (by decide : (0 : Int32).toInt ≤ (0 : Int))⟩
  | n + 1, q, hb => by
    have e : B * ((n + 1 : Nat) : Int) = B * (n : Int) + B := by
      rw [Int.natCast_add, Int.mul_add]
      exact congrArg (B * (n : Int) + ·) (Int.mul_one B)
    rw [e] at hb ⊢
    have hn0 : 0 ≤ B * (n : Int) := Int.mul_nonneg hB0 (Int.natCast_nonneg n)
    obtain ⟨a0, a1⟩ := pS_bd hB0 n (fun i hi => q i (by omega)) (by omega)
    obtain ⟨b0, b1⟩ := q n (by omega)
    rw [pS_succ]
    unfold pBd
    rw [pI_add (by omega) (by omega)]
    omega
/-! ===== parts, next ===== -/
section PParts
variable {G : Nat × (Nat → Int32)} {d : Nat} {σ : aH} {m : St}
def mPh (h : Ho) (s l p : Nat) : Nat → Int32 := mkH (hP h) (hS h) (hL h) p s l
def mPd (h : Ho) (s l p : Nat) : Int32 := pDrift (mPh h s l p) (pHeld (mPh h s l p))
def mPv (h : Ho) (s a b : Nat) : Int32 := pS (fun p => pOff (mPd h s a p) (mPd h s b p)) (hn h 0)
def mPm (h : Ho) (s : Nat) : Int32 := pM (fun a => pM (fun b => mPv h s a b) a) (hn h 2)
def mParts (h : Ho) (s : Nat) : Int32 := if mPm h s = -1 then 0 else mPm h s
theorem pOff_bd {a b : Int32} {B : Int} (ha : pBd a 0 B) (hb : pBd b 0 B) (hB : B < 2147483648) : pBd (pOff a b) 0 B := by
  obtain ⟨a0, a1⟩ := ha
  obtain ⟨b0, b1⟩ := hb
  unfold pOff
  by_cases h : b ≤ a
  · rw [if_pos h]
    rw [pLe] at h
    unfold pBd
    rw [pI_sub (by omega) (by omega)]
    omega
  · rw [if_neg h]
    rw [pLe] at h
    unfold pBd
    rw [pI_sub (by omega) (by omega)]
    omega
theorem mPh_r {h : Ho} (hk : Hok h) {s l p : Nat} (hl : l < hn h 2) (hp : p < hn h 0) (hs : s < hn h 1) : pHr (mPh h s l p) := pHr_of (hk.2.1 p hp) (hk.2.2.1 s hs) (hk.2.2.2.1 l hl)
theorem mPd_bd {h : Ho} (hk : Hok h) {s l p : Nat} (hl : l < hn h 2) (hp : p < hn h 0) (hs : s < hn h 1) : pBd (mPd h s l p) 0 999 := pDrift_bd (mPh_r hk hl hp hs) (pHeld_bd (mPh_r hk hl hp hs))
theorem mPv_bd {h : Ho} (hk : Hok h) {s a b : Nat} (ha : a < hn h 2) (hb : b < hn h 2) (hs : s < hn h 1) : pBd (mPv h s a b) 0 (999 * (hn h 0 : Int)) := by
  have h20 := hk.1.1
  exact pS_bd (by decide) (hn h 0) (fun p hp => pOff_bd (mPd_bd hk ha hp hs) (mPd_bd hk hb hp hs) (by decide)) (by omega)
theorem pBd.nm1 {x : Int32} {B : Int} (h : pBd x 0 B) : ¬ x = -1 := fun e => by
  have h0 := h.1
  rw [e] at h0
  exact absurd h0 (by decide)
theorem pBd.ge0 {x : Int32} {B : Int} (h : pBd x 0 B) : 0 ≤ x := pLe.mpr (by rw [show (0 : Int32).toInt = 0 from rfl]; exact h.1)
theorem mPv_comm (h : Ho) (s a b : Nat) : mPv h s a b = mPv h s b a := pS_congr (hn h 0) fun _ _ => pOff_comm _ _
theorem mPm_good {h : Ho} (hk : Hok h) {s : Nat} (hs : s < hn h 1) : mPm h s = -1 ∨ 0 ≤ mPm h s := by
  refine pM_good (hn h 2) fun a ha => pM_good a fun b hb => Or.inr ?_
  exact (mPv_bd hk ha (show b < hn h 2 by omega) hs).ge0
theorem s_lawsDiffer (ho : okAll m) {s i j : Nat} (hi : i < hn m.1 2) (hj : j < hn m.1 2) (q29 : ∀ l, l < hn m.1 2 → ∀ p, p < hn m.1 0 → σ.1 29 (20 * l + p) = mPd m.1 s l p) : Rn G (d + 2) 276 [.ref 0, .int (Int32.ofNat i), .int (Int32.ofNat j), .int (Int32.ofNat (hn m.1 0))] σ = oI (mPv m.1 s i j) σ := by
  have h20 := ho.1.1.1
  have h6 := ho.1.1.2.2.1
  rw [e_Rh_lawsDiffer]
  have ix : ∀ l p : Nat, Int32.ofNat l * 20 + Int32.ofNat p = Int32.ofNat (20 * l + p) := fun l p => by
    rw [Nat.mul_comm, Int32.ofNat_add, Int32.ofNat_mul]
    rfl
  have e := pLoop0 (G := G) (d := d + 1) (M := M_276) (fun p (a : Int32) => (6, [some (.ref 0), some (.int (Int32.ofNat i)), some (.int (Int32.ofNat j)), some (.int (Int32.ofNat (hn m.1 0))), some (.int a), some (.int (Int32.ofNat p))], [], σ)) (fun p a => a + pOff (mPd m.1 s i p) (mPd m.1 s j p)) (hn m.1 0) 0 (by
    intro p a hp
    show Lq G (d + 1) M_276 (6, [some (.ref 0), some (.int (Int32.ofNat i)), some (.int (Int32.ofNat j)), some (.int (Int32.ofNat (hn m.1 0))), some (.int a), some (.int (Int32.ofNat p))], [], σ) = _
    rw [c_Rh_lawsDiffer_6, if_neg (pGo hp (by omega)), ix, ix, s_cell (r := 29) (n := 120) (i := 20 * i + p) rfl rfl (by omega) (by decide), pCI, s_cell (r := 29) (n := 120) (i := 20 * j + p) rfl rfl (by omega) (by decide), pCI, q29 i hi p hp, q29 j hj p hp, s_offC, pCI, pN_s])
  rw [pFo_sum0, Int32.zero_add] at e
  refine Eq.trans e ?_
  show Lq G (d + 1) M_276 (6, [some (.ref 0), some (.int (Int32.ofNat i)), some (.int (Int32.ofNat j)), some (.int (Int32.ofNat (hn m.1 0))), some (.int (mPv m.1 s i j)), some (.int (Int32.ofNat (hn m.1 0)))], [], σ) = _
  rw [c_Rh_lawsDiffer_6, if_pos pEnd]
/-- the class tells all drifts -/
theorem s_partsFill (q : cHo σ m.1) (ho : okAll m) {s : Nat} (hs : s < hn m.1 1) : ∃ σ', pSame [24, 29] σ σ' ∧ (∀ l, l < hn m.1 2 → ∀ p, p < hn m.1 0 → σ'.1 29 (20 * l + p) = mPd m.1 s l p) ∧ Lq G (d + 4) M_275 (21, [some (.ref 0), some (.int (Int32.ofNat s)), some (.int (Int32.ofNat (hn m.1 2))), some (.int (Int32.ofNat (hn m.1 0))), some (.int 0), none, none, none], [], σ) = Lq G (d + 4) M_275 (99, [some (.ref 0), none, some (.int (Int32.ofNat (hn m.1 2))), some (.int (Int32.ofNat (hn m.1 0))), some (.int (-1)), some (.int 0), none, none], [], σ') := by
  have hk := ho.1
  obtain ⟨k0, k1, k2, _⟩ := hk.1
  have ix : ∀ l p : Nat, Int32.ofNat l * 20 + Int32.ofNat p = Int32.ofNat (20 * l + p) := fun l p => by
    rw [Nat.mul_comm, Int32.ofNat_add, Int32.ofNat_mul]
    rfl
  have inner : ∀ (l : Nat) (a : aH), l < hn m.1 2 → pSame [24, 29] σ a → (∀ l', l' < l → ∀ p, p < hn m.1 0 → a.1 29 (20 * l' + p) = mPd m.1 s l' p) → ∃ b, (pSame [24, 29] σ b ∧ ∀ l', l' < l + 1 → ∀ p, p < hn m.1 0 → b.1 29 (20 * l' + p) = mPd m.1 s l' p) ∧ Lq G (d + 4) M_275 (30, [some (.ref 0), some (.int (Int32.ofNat s)), some (.int (Int32.ofNat (hn m.1 2))), some (.int (Int32.ofNat (hn m.1 0))), some (.int (Int32.ofNat l)), some (.int 0), none, none], [], a) = Lq G (d + 4) M_275 (21, [some (.ref 0), some (.int (Int32.ofNat s)), some (.int (Int32.ofNat (hn m.1 2))), some (.int (Int32.ofNat (hn m.1 0))), some (.int (Int32.ofNat (l + 1))), none, none, none], [], b) := by
    intro l a hl ha1 ha2
    obtain ⟨b, ⟨hb1, hb2, hb3⟩, e⟩ := pLoopR0 (G := G) (d := d + 4) (M := M_275) (fun p c => (30, [some (.ref 0), some (.int (Int32.ofNat s)), some (.int (Int32.ofNat (hn m.1 2))), some (.int (Int32.ofNat (hn m.1 0))), some (.int (Int32.ofNat l)), some (.int (Int32.ofNat p)), none, none], [], c)) (fun p c => pSame [24, 29] σ c ∧ (∀ l', l' < l → ∀ p, p < hn m.1 0 → c.1 29 (20 * l' + p) = mPd m.1 s l' p) ∧ ∀ p', p' < p → c.1 29 (20 * l + p') = mPd m.1 s l p') (hn m.1 0) a ⟨ha1, ha2, fun p hp => absurd hp (Nat.not_lt_zero p)⟩ (by
      intro p c hp ⟨hc1, hc2, hc3⟩
      have hr := mPh_r hk hl hp hs
      obtain ⟨σ1, r1, f1, g1⟩ := s_takeC (G := G) (d := d) (m := m) (q.ps hc1 (by decide) (by decide) (by decide)) hk (x := Int32.ofNat l) (y := Int32.ofNat p) (z := Int32.ofNat s) (l := l) (p := p) (s := s) ⟨hl, hp, hs, rfl, rfl, rfl⟩
      have g1 : pHc σ1 (mPh m.1 s l p) := g1
      refine ⟨aSI (aSI σ1 24 16 (pHeld (mPh m.1 s l p))) 29 (20 * l + p) (mPd m.1 s l p), ⟨((hc1.trans (f1.mono (by decide))).si (by decide)).si (by decide), ?_, ?_⟩, ?_⟩
      · intro l' hl' p' hp'
        rw [pSI_of (by omega), pSI_ne (by decide), f1.at (by decide)]
        exact hc2 l' hl' p' hp'
      · intro p' hp'
        by_cases h3 : p' = p
        · subst h3
          exact pSI_at
        · rw [pSI_of (by omega), pSI_ne (by decide), f1.at (by decide)]
          exact hc3 p' (by omega)
      · rw [c_Rh_partsOf_30, if_neg (pGo hp (by omega)), r1, pCV, s_settle g1 hr, pCV, s_drift g1.settled hr, pCI, pSI_at, ix, s_put (r := 29) (n := 120) (i := 20 * l + p) rfl rfl (by omega) (by decide), pCV, pN_s]
        rfl)
    refine ⟨b, ⟨hb1, ?_⟩, ?_⟩
    · intro l' hl' p hp
      by_cases h : l' = l
      · subst h
        exact hb3 p hp
      · exact hb2 l' (by omega) p hp
    · refine Eq.trans e ?_
      show Lq G (d + 4) M_275 (30, [some (.ref 0), some (.int (Int32.ofNat s)), some (.int (Int32.ofNat (hn m.1 2))), some (.int (Int32.ofNat (hn m.1 0))), some (.int (Int32.ofNat l)), some (.int (Int32.ofNat (hn m.1 0))), none, none], [], b) = _
      rw [c_Rh_partsOf_30, if_pos pEnd, pN_s]
  obtain ⟨b, ⟨hb1, hb2⟩, e⟩ := pLoopR0 (G := G) (d := d + 4) (M := M_275) (fun l c => (21, [some (.ref 0), some (.int (Int32.ofNat s)), some (.int (Int32.ofNat (hn m.1 2))), some (.int (Int32.ofNat (hn m.1 0))), some (.int (Int32.ofNat l)), none, none, none], [], c)) (fun l c => pSame [24, 29] σ c ∧ ∀ l', l' < l → ∀ p, p < hn m.1 0 → c.1 29 (20 * l' + p) = mPd m.1 s l' p) (hn m.1 2) σ ⟨pSame.rfl', fun l hl => absurd hl (Nat.not_lt_zero l)⟩ (by
    intro l c hl ⟨hc1, hc2⟩
    obtain ⟨b, hb, e⟩ := inner l c hl hc1 hc2
    refine ⟨b, hb, ?_⟩
    rw [c_Rh_partsOf_21, if_neg (pGo hl (by omega)), e])
  refine ⟨b, hb1, hb2, ?_⟩
  refine Eq.trans e ?_
  show Lq G (d + 4) M_275 (21, [some (.ref 0), some (.int (Int32.ofNat s)), some (.int (Int32.ofNat (hn m.1 2))), some (.int (Int32.ofNat (hn m.1 0))), some (.int (Int32.ofNat (hn m.1 2))), none, none, none], [], b) = _
  rw [c_Rh_partsOf_21, if_pos pEnd]
theorem pMn_step {a v : Int32} (hv : ¬ v = -1) {ρ : Type} {f : Int32 → ρ} : (if a = -1 then f v else if a ≤ v then f a else f v) = f (pMn a v) := by
  by_cases h : a = -1
  · rw [if_pos h, h, pMn_1]
  · rw [if_neg h, pMn_3 h hv]
    by_cases h2 : a ≤ v
    · rw [if_pos h2, if_pos h2]
    · rw [if_neg h2, if_neg h2]
theorem s_partsC (q : cHo σ m.1) (ho : okAll m) {s : Nat} (hs : s < hn m.1 1) : ∃ σ', Rn G (d + 5) 275 [.ref 0, .int (Int32.ofNat s)] σ = oI (mParts m.1 s) σ' ∧ pSame [24, 29] σ σ' := by
  have hk := ho.1
  obtain ⟨k0, k1, k2, _⟩ := hk.1
  obtain ⟨b, hb1, hb2, e⟩ := s_partsFill (G := G) (d := d) q ho hs
  refine ⟨b, ?_, hb1⟩
  rw [e_Rh_partsOf, s_howMany (x := 2) (k := 2) rfl (by decide), pCI, s_howMany (x := 0) (k := 0) rfl (by decide), pCI, q.1 2 (by decide), q.1 0 (by decide), e]
  have inner : ∀ (i : Nat) (a : Int32), i < hn m.1 2 → Lq G (d + 4) M_275 (111, [some (.ref 0), none, some (.int (Int32.ofNat (hn m.1 2))), some (.int (Int32.ofNat (hn m.1 0))), some (.int a), some (.int (Int32.ofNat i)), some (.int (Int32.ofNat (i + 1))), none], [], b) = Lq G (d + 4) M_275 (99, [some (.ref 0), none, some (.int (Int32.ofNat (hn m.1 2))), some (.int (Int32.ofNat (hn m.1 0))), some (.int (pMn a (pM (fun t => mPv m.1 s i (i + 1 + t)) (hn m.1 2 - (i + 1))))), some (.int (Int32.ofNat (i + 1))), none, none], [], b) := by
    intro i a hi
    have e := pLoop (G := G) (d := d + 4) (M := M_275) (fun j (a : Int32) => (111, [some (.ref 0), none, some (.int (Int32.ofNat (hn m.1 2))), some (.int (Int32.ofNat (hn m.1 0))), some (.int a), some (.int (Int32.ofNat i)), some (.int (Int32.ofNat j)), none], [], b)) (fun j a => pMn a (mPv m.1 s i j)) (hn m.1 2) (by
      intro j a hj
      have hv := (mPv_bd hk hi hj hs).nm1
      show Lq G (d + 4) M_275 (111, [some (.ref 0), none, some (.int (Int32.ofNat (hn m.1 2))), some (.int (Int32.ofNat (hn m.1 0))), some (.int a), some (.int (Int32.ofNat i)), some (.int (Int32.ofNat j)), none], [], b) = _
      rw [c_Rh_partsOf_111, if_neg (pGo hj (by omega)), s_lawsDiffer ho hi hj hb2, pCI, pN_s]
      exact pMn_step hv (f := fun y => Lq G (d + 4) M_275 (111, [some (.ref 0), none, some (.int (Int32.ofNat (hn m.1 2))), some (.int (Int32.ofNat (hn m.1 0))), some (.int y), some (.int (Int32.ofNat i)), some (.int (Int32.ofNat (j + 1))), none], [], b))) (hn m.1 2 - (i + 1)) (i + 1) a (by omega)
    rw [pFo_min] at e
    refine Eq.trans e ?_
    show Lq G (d + 4) M_275 (111, [some (.ref 0), none, some (.int (Int32.ofNat (hn m.1 2))), some (.int (Int32.ofNat (hn m.1 0))), some (.int (pMn a (pM (fun t => mPv m.1 s i (i + 1 + t)) (hn m.1 2 - (i + 1))))), some (.int (Int32.ofNat i)), some (.int (Int32.ofNat (hn m.1 2))), none], [], b) = _
    rw [c_Rh_partsOf_111, if_pos pEnd, pN_s]
  have e2 := pLoop0 (G := G) (d := d + 4) (M := M_275) (fun i (a : Int32) => (99, [some (.ref 0), none, some (.int (Int32.ofNat (hn m.1 2))), some (.int (Int32.ofNat (hn m.1 0))), some (.int a), some (.int (Int32.ofNat i)), none, none], [], b)) (fun i a => pMn a (pM (fun t => mPv m.1 s i (i + 1 + t)) (hn m.1 2 - (i + 1)))) (hn m.1 2) (-1) (by
    intro i a hi
    show Lq G (d + 4) M_275 (99, [some (.ref 0), none, some (.int (Int32.ofNat (hn m.1 2))), some (.int (Int32.ofNat (hn m.1 0))), some (.int a), some (.int (Int32.ofNat i)), none, none], [], b) = _
    rw [c_Rh_partsOf_99, if_neg (pGo hi (by omega)), pN_s, inner i a hi])
  rw [pFo_min0, pMn_1] at e2
  have e3 : pM (fun i => pM (fun t => mPv m.1 s i (i + 1 + t)) (hn m.1 2 - (i + 1))) (hn m.1 2) = mPm m.1 s := pMc_eq (g := fun a b => mPv m.1 s a b) (f := fun a b => mPv m.1 s a b) (fun i j => mPv_comm m.1 s i j) (hn m.1 2)
  rw [e3] at e2
  refine Eq.trans e2 ?_
  show Lq G (d + 4) M_275 (99, [some (.ref 0), none, some (.int (Int32.ofNat (hn m.1 2))), some (.int (Int32.ofNat (hn m.1 0))), some (.int (mPm m.1 s)), some (.int (Int32.ofNat (hn m.1 2))), none, none], [], b) = _
  rw [c_Rh_partsOf_99, if_pos pEnd, e_Math_max_0]
  unfold mParts
  rcases mPm_good hk hs with h | h
  · rw [h, if_neg (by decide), if_pos rfl, pCI]
  · have h2 : ¬ mPm m.1 s = -1 := fun e => by
      rw [e] at h
      exact absurd h (by decide)
    rw [if_neg h2]
    by_cases h3 : 0 < mPm m.1 s
    · rw [if_pos h3, pCI]
    · rw [if_neg h3, pCI, Int32.le_antisymm h (pNotLt.mp h3)]
theorem s_partsM (q : rHo σ m.1) (ho : okAll m) {s : Nat} (hs : s < hn m.1 1) : ∃ σ', Rn G (d + 6) 278 [.ref 33, .int (Int32.ofNat s)] σ = oI (mParts m.1 s) σ' ∧ pSame [50, 51] σ σ' := by
  have hk := ho.1
  obtain ⟨k0, k1, k2, _⟩ := hk.1
  rw [e_Md_partsOf]
  have e1 : ∀ a, pSame [50, 51] σ a → a.1 33 1 = Int32.ofNat (hn m.1 0) := fun a f => (congrFun (f.at (by decide)) 1).trans (q.1 0 (by decide))
  have e3 : ∀ a, pSame [50, 51] σ a → a.1 33 3 = Int32.ofNat (hn m.1 2) := fun a f => (congrFun (f.at (by decide)) 3).trans (q.1 2 (by decide))
  have sum : ∀ (i j : Nat) (x : Int32) (a : aH), i < hn m.1 2 → j < hn m.1 2 → pSame [50, 51] σ a → ∃ b, pSame [50, 51] σ b ∧ Lq G (d + 5) M_278 (27, [some (.ref 33), some (.int (Int32.ofNat s)), some (.int x), some (.int (Int32.ofNat i)), some (.int (Int32.ofNat j)), some (.int 0), some (.int 0)], [], a) = Lq G (d + 5) M_278 (15, [some (.ref 33), some (.int (Int32.ofNat s)), some (.int (pMn x (mPv m.1 s i j))), some (.int (Int32.ofNat i)), some (.int (Int32.ofNat (j + 1))), none, none], [], b) := by
    intro i j x a hi hj ha
    obtain ⟨b, ⟨hb1, hb2⟩, e⟩ := pLoopR0 (G := G) (d := d + 5) (M := M_278) (fun p (c : Int32 × aH) => (27, [some (.ref 33), some (.int (Int32.ofNat s)), some (.int x), some (.int (Int32.ofNat i)), some (.int (Int32.ofNat j)), some (.int c.1), some (.int (Int32.ofNat p))], [], c.2)) (fun p c => pSame [50, 51] σ c.2 ∧ c.1 = pS (fun p => pOff (mPd m.1 s i p) (mPd m.1 s j p)) p) (hn m.1 0) (0, a) ⟨ha, rfl⟩ (by
      intro p c hp ⟨hc1, hc2⟩
      have qc := q.ps hc1 (by decide)
      obtain ⟨σ1, r1, f1, g1⟩ := s_asks (G := G) (d := d + 4) (σ := c.2) (p := p) (s := s) (by omega) (by omega)
      have g : ∀ l, l < hn m.1 2 → pHm σ1 l (mPh m.1 s l p) := fun l hl => pHm_of (fun k hk => by rw [(g1 k hk).1, qc.2.1 p hp k hk]) (fun k hk => by rw [(g1 k hk).2, qc.2.2.1 s hs k hk]) (fun k hk => by rw [f1.at (by decide), qc.2.2.2.1 l hl k hk])
      refine ⟨(c.1 + pOff (mPd m.1 s i p) (mPd m.1 s j p), σ1), ⟨hc1.trans f1, by rw [pS_succ, ← hc2]⟩, ?_⟩
      show Lq G (d + 5) M_278 (27, [some (.ref 33), some (.int (Int32.ofNat s)), some (.int x), some (.int (Int32.ofNat i)), some (.int (Int32.ofNat j)), some (.int c.1), some (.int (Int32.ofNat p))], [], c.2) = _
      rw [c_Md_partsOf_27, e1 c.2 hc1, if_neg (pGo hp (by omega)), r1, pCV, s_driftBy (show i < 6 by omega) (g i hi) (mPh_r hk hi hp hs), pCI, s_driftBy (show j < 6 by omega) (g j hj) (mPh_r hk hj hp hs), pCI, s_offM, pCI, pN_s]
      rfl)
    have hv := (mPv_bd hk hi hj hs).nm1
    refine ⟨b.2, hb1, ?_⟩
    refine Eq.trans e ?_
    show Lq G (d + 5) M_278 (27, [some (.ref 33), some (.int (Int32.ofNat s)), some (.int x), some (.int (Int32.ofNat i)), some (.int (Int32.ofNat j)), some (.int b.1), some (.int (Int32.ofNat (hn m.1 0)))], [], b.2) = _
    rw [c_Md_partsOf_27, e1 b.2 hb1, if_pos pEnd, hb2, pN_s]
    exact pMn_step hv (f := fun y => Lq G (d + 5) M_278 (15, [some (.ref 33), some (.int (Int32.ofNat s)), some (.int y), some (.int (Int32.ofNat i)), some (.int (Int32.ofNat (j + 1))), none, none], [], b.2))
  have row : ∀ (i : Nat) (x : Int32) (a : aH), i < hn m.1 2 → pSame [50, 51] σ a → ∃ b, pSame [50, 51] σ b ∧ Lq G (d + 5) M_278 (15, [some (.ref 33), some (.int (Int32.ofNat s)), some (.int x), some (.int (Int32.ofNat i)), some (.int 0), none, none], [], a) = Lq G (d + 5) M_278 (4, [some (.ref 33), some (.int (Int32.ofNat s)), some (.int (pMn x (pM (fun b => mPv m.1 s i b) i))), some (.int (Int32.ofNat (i + 1))), none, none, none], [], b) := by
    intro i x a hi ha
    obtain ⟨b, ⟨hb1, hb2⟩, e⟩ := pLoopR0 (G := G) (d := d + 5) (M := M_278) (fun j (c : Int32 × aH) => (15, [some (.ref 33), some (.int (Int32.ofNat s)), some (.int c.1), some (.int (Int32.ofNat i)), some (.int (Int32.ofNat j)), none, none], [], c.2)) (fun j c => pSame [50, 51] σ c.2 ∧ c.1 = pMn x (pM (fun b => mPv m.1 s i b) j)) i (x, a) ⟨ha, (pMn_2 x).symm⟩ (by
      intro j c hj ⟨hc1, hc2⟩
      obtain ⟨σ1, f1, r1⟩ := sum i j c.1 c.2 hi (by omega) hc1
      refine ⟨(pMn c.1 (mPv m.1 s i j), σ1), ⟨f1, by rw [pM_succ, ← pMn_assoc, ← hc2]⟩, ?_⟩
      show Lq G (d + 5) M_278 (15, [some (.ref 33), some (.int (Int32.ofNat s)), some (.int c.1), some (.int (Int32.ofNat i)), some (.int (Int32.ofNat j)), none, none], [], c.2) = _
      rw [c_Md_partsOf_15, if_neg (pGo hj (by omega)), r1])
    refine ⟨b.2, hb1, ?_⟩
    refine Eq.trans e ?_
    show Lq G (d + 5) M_278 (15, [some (.ref 33), some (.int (Int32.ofNat s)), some (.int b.1), some (.int (Int32.ofNat i)), some (.int (Int32.ofNat i)), none, none], [], b.2) = _
    rw [c_Md_partsOf_15, if_pos pEnd, hb2, pN_s]
  obtain ⟨b, ⟨hb1, hb2⟩, e⟩ := pLoopR0 (G := G) (d := d + 5) (M := M_278) (fun i (c : Int32 × aH) => (4, [some (.ref 33), some (.int (Int32.ofNat s)), some (.int c.1), some (.int (Int32.ofNat i)), none, none, none], [], c.2)) (fun i c => pSame [50, 51] σ c.2 ∧ c.1 = pM (fun a => pM (fun b => mPv m.1 s a b) a) i) (hn m.1 2) (-1, σ) ⟨pSame.rfl', rfl⟩ (by
    intro i c hi ⟨hc1, hc2⟩
    obtain ⟨σ1, f1, r1⟩ := row i c.1 c.2 hi hc1
    refine ⟨(pMn c.1 (pM (fun b => mPv m.1 s i b) i), σ1), ⟨f1, by rw [pM_succ, ← hc2]⟩, ?_⟩
    show Lq G (d + 5) M_278 (4, [some (.ref 33), some (.int (Int32.ofNat s)), some (.int c.1), some (.int (Int32.ofNat i)), none, none, none], [], c.2) = _
    rw [c_Md_partsOf_4, e3 c.2 hc1, if_neg (pGo hi (by omega)), r1])
  have hb2 : b.1 = mPm m.1 s := hb2
  refine ⟨b.2, ?_, hb1⟩
  refine Eq.trans e ?_
  show Lq G (d + 5) M_278 (4, [some (.ref 33), some (.int (Int32.ofNat s)), some (.int b.1), some (.int (Int32.ofNat (hn m.1 2))), none, none, none], [], b.2) = _
  rw [c_Md_partsOf_4, e3 b.2 hb1, if_pos pEnd, hb2, pOI]
  rfl
theorem a_parts (ho : okAll m) (x : Int32) : Ask G 274 277 [.int x] [(0, 1)] m := by
  have hk := ho.1
  have h20 := hk.1.2.1
  rcases rngI (x := x) (n := hn m.1 1) (by omega) with ⟨s, hs, rfl⟩ | hx
  · refine Or.inl ⟨mParts m.1 s, fun σ I => ?_, fun σ I => ?_⟩
    · obtain ⟨_, ⟨q, _⟩, _⟩ := I
      obtain ⟨σ1, r1, f1⟩ := s_partsC (G := G) (d := 54) q ho hs
      refine cOkS (σ' := σ1) ?_ f1 (by decide)
      rw [e_Rh_parts, s_hasN (x1 := 1) (k := 1) rfl (by decide) (q.1 1 (by decide)) (by omega) (by omega), pCI, if_pos hs, s_demand1, pXV, r1, pCI]
    · have I' := I.k (K.rfl'.s33 (j := 0) (x := 0) (by decide))
      obtain ⟨σ1, r1, f1⟩ := s_partsM (G := G) (d := 53) I'.2.2.1 ho hs
      obtain ⟨_, _, ⟨q, _⟩⟩ := I
      have e2 : σ.1 33 2 = Int32.ofNat (hn m.1 1) := q.1 1 (by decide)
      refine rOkS (σ' := σ1) ?_ ((rS.rfl'.s33 (by decide)).ps2 f1) ((congrFun (f1.at (by decide)) 0).trans pSI_at)
      rw [e_Md_parts, if_neg (pN_n0 (by omega)), e2, if_neg (pGo hs (by omega)), s_r1, pCI, if_neg (by decide), r1, pCI]
  · refine Or.inr ⟨(0, 1), by decide, fun σ I => cExI ?_, fun σ I => rExI (v := 0) ?_⟩
    · obtain ⟨_, ⟨q, _⟩, _⟩ := I
      rw [e_Rh_parts, s_hasO (x1 := 1) (k := 1) rfl (by decide) (q.1 1 (by decide)) hx, pCI, s_demand0, pXVt]
    · obtain ⟨_, _, ⟨q, _⟩⟩ := I
      have e2 : σ.1 33 2 = Int32.ofNat (hn m.1 1) := q.1 1 (by decide)
      rw [e_Md_parts, e2, s_r0 (by decide), pCI, if_pos rfl]
      by_cases h0 : x < 0
      · rw [if_pos h0]
      · rw [if_neg h0, if_pos (hx.resolve_left h0)]
def mNxF (h : Ho) (i : Nat) (a : Int32 × Int32) : Int32 × Int32 := if mParts h i ≤ a.2 then a else (Int32.ofNat i, mParts h i)
def mNext (h : Ho) : Int32 := (pFo (mNxF h) (hn h 1) 0 (-1, -1)).1
theorem k_next (ho : okAll m) : ∃ m', AskD G 279 280 [] m m' := by
  have hk := ho.1
  have h20 := hk.1.2.1
  refine ⟨m, ho, mNext m.1, fun σ a b => ?_, fun σ a b => ?_⟩
  · have q := a.1
    obtain ⟨c, ⟨hc1, hc2⟩, e⟩ := pLoopR0 (G := G) (d := 59) (M := M_279) (fun i (c : (Int32 × Int32) × aH) => (16, [some (.ref 0), some (.int c.1.1), some (.int c.1.2), some (.int (Int32.ofNat (hn m.1 1))), some (.int (Int32.ofNat i)), none], [], c.2)) (fun i c => pSame [24, 29] σ c.2 ∧ c.1 = pFo (mNxF m.1) i 0 (-1, -1)) (hn m.1 1) ((-1, -1), σ) ⟨pSame.rfl', rfl⟩ (by
      intro i c hi ⟨hc1, hc2⟩
      obtain ⟨σ1, r1, f1⟩ := s_partsC (G := G) (d := 54) (q.ps hc1 (by decide) (by decide) (by decide)) ho hi
      refine ⟨(mNxF m.1 i c.1, σ1), ⟨hc1.trans f1, by rw [pFo_snoc, Nat.zero_add, ← hc2]⟩, ?_⟩
      show Lq G 59 M_279 (16, [some (.ref 0), some (.int c.1.1), some (.int c.1.2), some (.int (Int32.ofNat (hn m.1 1))), some (.int (Int32.ofNat i)), none], [], c.2) = Lq G 59 M_279 (16, [some (.ref 0), some (.int (mNxF m.1 i c.1).1), some (.int (mNxF m.1 i c.1).2), some (.int (Int32.ofNat (hn m.1 1))), some (.int (Int32.ofNat (i + 1))), none], [], σ1)
      rw [c_Rh_next_16, if_neg (pGo hi (by omega)), r1, pCI, pN_s]
      by_cases h : mParts m.1 i ≤ c.1.2
      · rw [if_pos h, show mNxF m.1 i c.1 = c.1 from if_pos h]
      · rw [if_neg h, show mNxF m.1 i c.1 = (Int32.ofNat i, mParts m.1 i) from if_neg h])
    refine ⟨c.2, ?_, a.ps hc1 (by decide), b.ps hc1 (by decide)⟩
    have hc2' : c.1.1 = mNext m.1 := by rw [hc2]; rfl
    rw [e_Rh_next, s_howMany (x := 1) (k := 1) rfl (by decide), pCI, q.1 1 (by decide)]
    refine Eq.trans e ?_
    show Lq G 59 M_279 (16, [some (.ref 0), some (.int c.1.1), some (.int c.1.2), some (.int (Int32.ofNat (hn m.1 1))), some (.int (Int32.ofNat (hn m.1 1))), none], [], c.2) = _
    rw [c_Rh_next_16, if_pos pEnd, hc2']
  · have b0 := b.k (K.rfl'.s33 (j := 0) (x := 0) (by decide))
    have a0 := a.k (K.rfl'.s33 (j := 0) (x := 0) (by decide))
    have q := b0.1
    obtain ⟨c, ⟨hc1, hc2⟩, e⟩ := pLoopR0 (G := G) (d := 59) (M := M_280) (fun i (c : (Int32 × Int32) × aH) => (11, [some (.ref 33), some (.int c.1.1), some (.int c.1.2), some (.int (Int32.ofNat i)), none], [], c.2)) (fun i c => pSame [50, 51] (aSI σ 33 0 0) c.2 ∧ c.1 = pFo (mNxF m.1) i 0 (-1, -1)) (hn m.1 1) ((-1, -1), aSI σ 33 0 0) ⟨pSame.rfl', rfl⟩ (by
      intro i c hi ⟨hc1, hc2⟩
      obtain ⟨σ1, r1, f1⟩ := s_partsM (G := G) (d := 53) (q.ps hc1 (by decide)) ho hi
      have e2 : c.2.1 33 2 = Int32.ofNat (hn m.1 1) := (congrFun (hc1.at (by decide)) 2).trans (q.1 1 (by decide))
      refine ⟨(mNxF m.1 i c.1, σ1), ⟨hc1.trans f1, by rw [pFo_snoc, Nat.zero_add, ← hc2]⟩, ?_⟩
      show Lq G 59 M_280 (11, [some (.ref 33), some (.int c.1.1), some (.int c.1.2), some (.int (Int32.ofNat i)), none], [], c.2) = Lq G 59 M_280 (11, [some (.ref 33), some (.int (mNxF m.1 i c.1).1), some (.int (mNxF m.1 i c.1).2), some (.int (Int32.ofNat (i + 1))), none], [], σ1)
      rw [c_Md_next_11, e2, if_neg (pGo hi (by omega)), r1, pCI, pN_s]
      by_cases h : mParts m.1 i ≤ c.1.2
      · rw [if_pos h, if_pos h, show mNxF m.1 i c.1 = c.1 from if_pos h]
      · rw [if_neg h, if_neg h, show mNxF m.1 i c.1 = (Int32.ofNat i, mParts m.1 i) from if_neg h])
    refine ⟨c.2, ?_, a0.ps hc1 (by decide), b0.ps hc1 (by decide)⟩
    have hc2' : c.1.1 = mNext m.1 := by rw [hc2]; rfl
    have e2 : c.2.1 33 2 = Int32.ofNat (hn m.1 1) := (congrFun (hc1.at (by decide)) 2).trans (q.1 1 (by decide))
    rw [e_Md_next]
    refine Eq.trans e ?_
    show Lq G 59 M_280 (11, [some (.ref 33), some (.int c.1.1), some (.int c.1.2), some (.int (Int32.ofNat (hn m.1 1))), none], [], c.2) = _
    rw [c_Md_next_11, e2, if_pos pEnd, hc2']
end PParts
