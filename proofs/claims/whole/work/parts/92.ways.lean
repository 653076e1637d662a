/-! ===== all ways to choose some: what each side counts ===== -/
theorem ifN {P Q : Prop} {_ : Decidable P} {_ : Decidable Q} (h : P ↔ Q) : (if P then 1 else 0 : Nat) = if Q then 1 else 0 := by
  by_cases h1 : P
  · rw [if_pos h1, if_pos (h.mp h1)]
  · rw [if_neg h1, if_neg (fun h2 => h1 (h.mpr h2))]
def bW (f : Nat → Int) : Nat → Nat → Nat → Int → Nat
  | 0, _, k, x => if k = 0 ∧ x ≤ 0 then 1 else 0
  | j + 1, i, k, x => (if k = 0 then 0 else bW f j (i + 1) (k - 1) (x - f i)) + bW f j (i + 1) k x
theorem bW_z (f : Nat → Int) (i k : Nat) (x : Int) : bW f 0 i k x = if k = 0 ∧ x ≤ 0 then 1 else 0 := rfl
theorem bW_n (f : Nat → Int) (j i k : Nat) (x : Int) : bW f (j + 1) i k x = (if k = 0 then 0 else bW f j (i + 1) (k - 1) (x - f i)) + bW f j (i + 1) k x := rfl
theorem bW_0 (f : Nat → Int) (j i : Nat) (x : Int) : bW f (j + 1) i 0 x = bW f j (i + 1) 0 x := by rw [bW_n, if_pos rfl, Nat.zero_add]
theorem bW_s (f : Nat → Int) (j i k : Nat) (x : Int) : bW f (j + 1) i (k + 1) x = bW f j (i + 1) k (x - f i) + bW f j (i + 1) (k + 1) x := by rw [bW_n, if_neg (by omega), show k + 1 - 1 = k by omega]
theorem bW_congr {f g : Nat → Int} : ∀ (j i k : Nat) (x : Int), (∀ t, i ≤ t → t < i + j → f t = g t) → bW f j i k x = bW g j i k x
  | 0, _, _, _, _ => rfl
  | j + 1, i, k, x, h => by
    rw [bW_n, bW_n, h i (Nat.le_refl i) (by omega), bW_congr j (i + 1) (k - 1) (x - g i) (fun t h1 h2 => h t (by omega) (by omega)), bW_congr j (i + 1) k x (fun t h1 h2 => h t (by omega) (by omega))]
theorem bW_swap {f g : Nat → Int} {p : Nat} (h1 : g p = f (p + 1)) (h2 : g (p + 1) = f p) (h3 : ∀ t, t ≠ p → t ≠ p + 1 → g t = f t) : ∀ (j i k : Nat) (x : Int), i ≤ p → p + 2 ≤ i + j → bW g j i k x = bW f j i k x
  | 0, _, _, _, ha, hb => by omega
  | j + 1, i, k, x, ha, hb => by
    by_cases e : i = p
    · subst e
      obtain ⟨n, rfl⟩ : ∃ n, j = n + 1 := ⟨j - 1, by omega⟩
      have c : ∀ k x, bW g n (i + 1 + 1) k x = bW f n (i + 1 + 1) k x := fun k x => bW_congr n _ k x fun t a b => h3 t (by omega) (by omega)
      match k with
      | 0 => rw [bW_0, bW_0, bW_0, bW_0, c]
      | 1 =>
        have e : ∀ F : Nat → Int, bW F (n + 1 + 1) i 1 x = bW F n (i + 1 + 1) 0 (x - F i) + (bW F n (i + 1 + 1) 0 (x - F (i + 1)) + bW F n (i + 1 + 1) 1 x) := fun F => by
          rw [bW_s F (n + 1) i 0 x, bW_0 F n (i + 1), bW_s F n (i + 1) 0 x]
        rw [e, e, c, c, c, h1, h2]
        omega
      | k + 2 =>
        have e : ∀ F : Nat → Int, bW F (n + 1 + 1) i (k + 2) x = (bW F n (i + 1 + 1) k (x - F i - F (i + 1)) + bW F n (i + 1 + 1) (k + 1) (x - F i)) + (bW F n (i + 1 + 1) (k + 1) (x - F (i + 1)) + bW F n (i + 1 + 1) (k + 2) x) := fun F => by
          rw [bW_s F (n + 1) i (k + 1) x, bW_s F n (i + 1) k (x - F i), bW_s F n (i + 1) (k + 1) x]
        rw [e, e, c, c, c, c, h1, h2, show x - f (i + 1) - f i = x - f i - f (i + 1) by omega]
        omega
    · rw [bW_n, bW_n, h3 i (by omega) (by omega), bW_swap h1 h2 h3 j (i + 1) (k - 1) (x - f i) (by omega) (by omega), bW_swap h1 h2 h3 j (i + 1) k x (by omega) (by omega)]
theorem bW_gt (f : Nat → Int) : ∀ (j i k : Nat) (x : Int), j < k → bW f j i k x = 0
  | 0, i, k, x, h => by
    rw [bW_z, if_neg (by omega)]
  | j + 1, i, k, x, h => by
    rw [bW_n, bW_gt f j (i + 1) (k - 1) _ (by omega), bW_gt f j (i + 1) k x (by omega), ite_self]
def ch : Nat → Nat → Nat
  | 0, k => if k = 0 then 1 else 0
  | n + 1, k => (if k = 0 then 0 else ch n (k - 1)) + ch n k
theorem ch_z (k : Nat) : ch 0 k = if k = 0 then 1 else 0 := rfl
theorem ch_n (n k : Nat) : ch (n + 1) k = (if k = 0 then 0 else ch n (k - 1)) + ch n k := rfl
theorem ch_0 : ∀ n, ch n 0 = 1
  | 0 => rfl
  | n + 1 => by rw [ch_n, if_pos rfl, Nat.zero_add, ch_0 n]
theorem ch_s (n k : Nat) : ch (n + 1) (k + 1) = ch n k + ch n (k + 1) := by rw [ch_n, if_neg (by omega), show k + 1 - 1 = k by omega]
theorem ch_gt : ∀ (n k : Nat), n < k → ch n k = 0
  | 0, k, h => by rw [ch_z, if_neg (by omega)]
  | n + 1, k, h => by rw [ch_n, ch_gt n (k - 1) (by omega), ch_gt n k (by omega), ite_self]
theorem ch_le : ∀ (n k : Nat), ch n k ≤ 2 ^ n
  | 0, k => by
    rw [ch_z]
    split <;> decide
  | n + 1, k => by
    have a := ch_le n (k - 1)
    have b := ch_le n k
    rw [ch_n, Nat.pow_succ]
    split <;> omega
theorem ch_abs : ∀ (n k : Nat), (k + 1) * ch (n + 1) (k + 1) = (n + 1) * ch n k
  | 0, 0 => rfl
  | 0, k + 1 => by
    rw [ch_s, ch_gt 0 (k + 1) (by omega), ch_gt 0 (k + 1 + 1) (by omega)]
    simp
  | n + 1, 0 => by
    have h := ch_abs n 0
    rw [ch_0] at h
    rw [ch_s (n + 1) 0, ch_0, Nat.mul_add, h]
    omega
  | n + 1, k + 1 => by
    have h1 := ch_abs n k
    have h2 := ch_abs n (k + 1)
    have e : ch (n + 1) (k + 1) = ch n k + ch n (k + 1) := ch_s n k
    rw [ch_s (n + 1) (k + 1), Nat.mul_add, h2, Nat.succ_mul (k + 1), h1, Nat.succ_mul (n + 1), e, Nat.mul_add]
    omega
def sgS (f : Nat → Int) : Nat → Nat → Int
  | _, 0 => 0
  | a, n + 1 => f a + sgS f (a + 1) n
theorem sgS_n (f : Nat → Int) (a n : Nat) : sgS f a (n + 1) = f a + sgS f (a + 1) n := rfl
theorem sgS_z (f : Nat → Int) (a : Nat) : sgS f a 0 = 0 := rfl
/-- the greatest first -/
def bDn (f : Nat → Int) (i e : Nat) : Prop := ∀ t, i ≤ t → t + 1 < e → f (t + 1) ≤ f t
theorem bDn.le {f : Nat → Int} {e : Nat} : ∀ (n i : Nat), bDn f i e → i + n < e → f (i + n) ≤ f i
  | 0, _, _, _ => Int.le_refl _
  | n + 1, i, h, he => by
    have a := bDn.le n i h (by omega)
    have b := h (i + n) (by omega) (by omega)
    rw [show i + (n + 1) = i + n + 1 by omega]
    omega
theorem sgS_mono {f : Nat → Int} {e : Nat} : ∀ (n i : Nat), bDn f i e → i + n < e → sgS f (i + 1) n ≤ sgS f i n
  | 0, _, _, _ => Int.le_refl _
  | n + 1, i, h, he => by
    have a := sgS_mono n (i + 1) (fun t h1 h2 => h t (by omega) h2) (by omega)
    have b := h i (Nat.le_refl i) (by omega)
    rw [sgS_n, sgS_n]
    omega
theorem bW_max {f : Nat → Int} : ∀ (j i k : Nat) (x : Int), bDn f i (i + j) → k ≤ j → sgS f i k < x → bW f j i k x = 0
  | 0, i, k, x, _, hk, hx => by
    have e : k = 0 := by omega
    subst e
    rw [sgS_z] at hx
    rw [bW_z, if_neg (by omega)]
  | j + 1, i, 0, x, h, _, hx => by
    rw [bW_0]
    rw [sgS_z] at hx
    exact bW_max j (i + 1) 0 x (fun t h1 h2 => h t (by omega) (by omega)) (by omega) hx
  | j + 1, i, k + 1, x, h, hk, hx => by
    have h' : bDn f (i + 1) (i + 1 + j) := fun t h1 h2 => h t (by omega) (by omega)
    have e := sgS_n f i k
    rw [bW_s, bW_max j (i + 1) k (x - f i) h' (by omega) (by omega)]
    by_cases hj : k + 1 ≤ j
    · have mo := sgS_mono (k + 1) i h (by omega)
      rw [bW_max j (i + 1) (k + 1) x h' hj (by omega)]
    · rw [bW_gt f j (i + 1) (k + 1) x (by omega)]
theorem bW_min {f : Nat → Int} : ∀ (j i k : Nat) (x : Int), bDn f i (i + j) → k ≤ j → x ≤ sgS f (i + j - k) k → bW f j i k x = ch j k
  | 0, i, k, x, _, hk, hx => by
    have e : k = 0 := by omega
    subst e
    rw [sgS_z] at hx
    rw [bW_z, ch_z, if_pos ⟨rfl, hx⟩, if_pos rfl]
  | j + 1, i, 0, x, h, _, hx => by
    rw [sgS_z] at hx
    have e := bW_min j (i + 1) 0 x (fun t h1 h2 => h t (by omega) (by omega)) (by omega) (by rw [sgS_z]; exact hx)
    rw [bW_0, e, ch_0, ch_0]
  | j + 1, i, k + 1, x, h, hk, hx => by
    have h' : bDn f (i + 1) (i + 1 + j) := fun t h1 h2 => h t (by omega) (by omega)
    have e0 : i + (j + 1) - (k + 1) = i + (j - k) := by omega
    rw [e0, sgS_n] at hx
    have le := bDn.le (j - k) i h (by omega)
    rw [bW_s, ch_s, bW_min j (i + 1) k (x - f i) h' (by omega) (by rw [show i + 1 + j - k = i + (j - k) + 1 by omega]; omega)]
    by_cases hj : k + 1 ≤ j
    · rw [bW_min j (i + 1) (k + 1) x h' hj (by rw [show i + 1 + j - (k + 1) = i + (j - k) by omega, sgS_n]; exact hx)]
    · rw [bW_gt f j (i + 1) (k + 1) x (by omega), ch_gt j (k + 1) (by omega)]
/-! the same, bit by bit -/
def bP : Nat → Nat → Nat
  | 0, _ => 0
  | n + 1, y => y % 2 + bP n (y / 2)
def bM (f : Nat → Int) : Nat → Nat → Nat → Int
  | 0, _, _ => 0
  | n + 1, i, y => (if y % 2 = 1 then f i else 0) + bM f n (i + 1) (y / 2)
def bS (g : Nat → Nat) : Nat → Nat
  | 0 => 0
  | n + 1 => bS g n + g n
theorem bS_n (g : Nat → Nat) (n : Nat) : bS g (n + 1) = bS g n + g n := rfl
theorem bS_congr {g h : Nat → Nat} : ∀ n, (∀ y, y < n → g y = h y) → bS g n = bS h n
  | 0, _ => rfl
  | n + 1, q => by rw [bS_n, bS_n, bS_congr n (fun y hy => q y (by omega)), q n (by omega)]
theorem bS_add (g h : Nat → Nat) : ∀ n, bS (fun y => g y + h y) n = bS g n + bS h n
  | 0 => rfl
  | n + 1 => by
    rw [bS_n, bS_n, bS_n, bS_add g h n]
    omega
theorem bS_0 : ∀ n, bS (fun _ => 0) n = 0
  | 0 => rfl
  | n + 1 => by rw [bS_n, bS_0 n]
theorem bS_two (g : Nat → Nat) : ∀ n, bS g (2 * n) = bS (fun y => g (2 * y) + g (2 * y + 1)) n
  | 0 => rfl
  | n + 1 => by
    rw [show 2 * (n + 1) = 2 * n + 1 + 1 by omega, bS_n, bS_n, bS_n, bS_two g n]
    omega
def bC (f : Nat → Int) (n i k : Nat) (x : Int) : Nat := bS (fun y => if bP n y = k ∧ x ≤ bM f n i y then 1 else 0) (2 ^ n)
def bN (n k : Nat) : Nat := bS (fun y => if bP n y = k then 1 else 0) (2 ^ n)
theorem bP_0 (n y : Nat) : bP (n + 1) (2 * y) = bP n y := by
  show (2 * y) % 2 + bP n (2 * y / 2) = _
  rw [show 2 * y % 2 = 0 by omega, show 2 * y / 2 = y by omega, Nat.zero_add]
theorem bP_1 (n y : Nat) : bP (n + 1) (2 * y + 1) = bP n y + 1 := by
  show (2 * y + 1) % 2 + bP n ((2 * y + 1) / 2) = _
  rw [show (2 * y + 1) % 2 = 1 by omega, show (2 * y + 1) / 2 = y by omega, Nat.add_comm]
theorem bM_0 (f : Nat → Int) (n i y : Nat) : bM f (n + 1) i (2 * y) = bM f n (i + 1) y := by
  show (if (2 * y) % 2 = 1 then f i else 0) + bM f n (i + 1) (2 * y / 2) = _
  rw [if_neg (by omega), show 2 * y / 2 = y by omega, Int.zero_add]
theorem bM_1 (f : Nat → Int) (n i y : Nat) : bM f (n + 1) i (2 * y + 1) = f i + bM f n (i + 1) y := by
  show (if (2 * y + 1) % 2 = 1 then f i else 0) + bM f n (i + 1) ((2 * y + 1) / 2) = _
  rw [if_pos (by omega), show (2 * y + 1) / 2 = y by omega]
theorem bC_W (f : Nat → Int) : ∀ (n i k : Nat) (x : Int), bC f n i k x = bW f n i k x
  | 0, i, k, x => by
    rw [bW_z]
    show bS (fun y => if bP 0 y = k ∧ x ≤ bM f 0 i y then 1 else 0) (0 + 1) = _
    rw [bS_n]
    show 0 + (if 0 = k ∧ x ≤ (0 : Int) then 1 else 0) = _
    rw [Nat.zero_add]
    by_cases h : k = 0
    · subst h
      rfl
    · rw [if_neg (fun q => h q.1.symm), if_neg (fun q => h q.1)]
  | n + 1, i, k, x => by
    have e : bC f (n + 1) i k x = bC f n (i + 1) k x + bS (fun y => if bP n y + 1 = k ∧ x ≤ f i + bM f n (i + 1) y then 1 else 0) (2 ^ n) := by
      unfold bC
      rw [Nat.pow_succ, Nat.mul_comm, bS_two, ← bS_add]
      refine bS_congr _ fun y _ => ?_
      show (if bP (n + 1) (2 * y) = k ∧ x ≤ bM f (n + 1) i (2 * y) then 1 else 0) + (if bP (n + 1) (2 * y + 1) = k ∧ x ≤ bM f (n + 1) i (2 * y + 1) then 1 else 0) = _
      rw [bP_0, bP_1, bM_0, bM_1]
    rw [e, bC_W f n (i + 1) k x, bW_n, Nat.add_comm]
    congr 1
    by_cases h : k = 0
    · rw [if_pos h, bS_congr (h := fun _ => 0) _ (fun y _ => if_neg (by omega)), bS_0]
    · rw [if_neg h, ← bC_W f n (i + 1) (k - 1) (x - f i)]
      unfold bC
      refine bS_congr _ fun y _ => ?_
      exact ifN (by omega)
theorem bN_ch : ∀ (n k : Nat), bN n k = ch n k
  | 0, k => by
    rw [ch_z]
    show bS (fun y => if bP 0 y = k then 1 else 0) (0 + 1) = _
    rw [bS_n]
    show 0 + (if 0 = k then 1 else 0) = _
    rw [Nat.zero_add]
    by_cases h : k = 0
    · rw [if_pos h.symm, if_pos h]
    · rw [if_neg (fun q => h q.symm), if_neg h]
  | n + 1, k => by
    have e : bN (n + 1) k = bN n k + bS (fun y => if bP n y + 1 = k then 1 else 0) (2 ^ n) := by
      unfold bN
      rw [Nat.pow_succ, Nat.mul_comm, bS_two, ← bS_add]
      refine bS_congr _ fun y _ => ?_
      show (if bP (n + 1) (2 * y) = k then 1 else 0) + (if bP (n + 1) (2 * y + 1) = k then 1 else 0) = _
      rw [bP_0, bP_1]
    rw [e, bN_ch n k, ch_n, Nat.add_comm]
    congr 1
    by_cases h : k = 0
    · rw [if_pos h, bS_congr (h := fun _ => 0) _ (fun y _ => if_neg (by omega)), bS_0]
    · rw [if_neg h, ← bN_ch n (k - 1)]
      unfold bN
      refine bS_congr _ fun y _ => ?_
      exact ifN (by omega)
/-- the lowest bit goes -/
theorem bP_and : ∀ (n x : Nat), 0 < x → x < 2 ^ n → bP n (x &&& (x - 1)) + 1 = bP n x
  | 0, x, h, h2 => by
    have e : (2 : Nat) ^ 0 = 1 := rfl
    omega
  | n + 1, x, h, h2 => by
    rw [Nat.pow_succ] at h2
    have m2 : ¬ (x &&& (x - 1)) % 2 = 1 := fun e => by
      have := Nat.and_mod_two_eq_one.mp e
      omega
    have m0 : (x &&& (x - 1)) % 2 = 0 := by omega
    show (x &&& (x - 1)) % 2 + bP n ((x &&& (x - 1)) / 2) + 1 = x % 2 + bP n (x / 2)
    rw [m0, Nat.and_div_two, Nat.zero_add]
    by_cases o : x % 2 = 1
    · rw [show (x - 1) / 2 = x / 2 by omega, Nat.and_self, o, Nat.add_comm]
    · have IH := bP_and n (x / 2) (by omega) (by omega)
      rw [show (x - 1) / 2 = x / 2 - 1 by omega, IH, show x % 2 = 0 by omega, Nat.zero_add]
theorem bP_pos : ∀ (n x : Nat), 0 < x → x < 2 ^ n → 0 < bP n x := fun n x h h2 => by
  have := bP_and n x h h2
  omega
theorem bP_zero : ∀ n, bP n 0 = 0
  | 0 => rfl
  | n + 1 => by
    show 0 % 2 + bP n (0 / 2) = 0
    rw [show 0 / 2 = 0 from rfl, bP_zero n]
theorem pShr {x i : Nat} (hx : x < 2147483648) (hi : i < 20) : Int32.ofNat x >>> (Int32.ofNat i &&& 31) = Int32.ofNat (x / 2 ^ i) := by
  apply Int32.toInt_inj.mp
  have hs : ((Int32.ofNat i &&& 31).toBitVec.smod 32).toNat = i := (by decide : ∀ i : Fin 20, ((Int32.ofNat i.val &&& 31).toBitVec.smod 32).toNat = i.val) ⟨i, hi⟩
  show (Int32.ofNat x >>> (Int32.ofNat i &&& 31)).toBitVec.toInt = _
  rw [Int32.toBitVec_shiftRight, BitVec.toInt_sshiftRight', hs]
  show (Int32.ofNat x).toInt >>> i = _
  rw [pN_int hx, pN_int (Nat.lt_of_le_of_lt (Nat.div_le_self _ _) hx), ← Nat.shiftRight_eq_div_pow]
  rfl
theorem pAndN (a b : Nat) : Int32.ofNat a &&& Int32.ofNat b = Int32.ofNat (a &&& b) := by
  apply Int32.toBitVec_inj.mp
  rw [Int32.toBitVec_and, Int32.toBitVec_ofNat', Int32.toBitVec_ofNat', Int32.toBitVec_ofNat', BitVec.ofNat_and]
theorem pShl {n : Nat} (hn : n ≤ 20) : (1 : Int32) <<< (Int32.ofNat n &&& 31) = Int32.ofNat (2 ^ n) := (by decide : ∀ i : Fin 21, (1 : Int32) <<< (Int32.ofNat i.val &&& 31) = Int32.ofNat (2 ^ i.val)) ⟨n, by omega⟩
theorem pBit {x i : Nat} (hx : x < 2147483648) (hi : i < 20) : (Int32.ofNat x >>> (Int32.ofNat i &&& 31)) &&& 1 = 1 ↔ x / 2 ^ i % 2 = 1 := by
  rw [pShr hx hi, show (1 : Int32) = Int32.ofNat 1 from rfl, pAndN, Nat.and_one_is_mod]
  exact pN_eq (by omega) (by decide)
theorem pSubN {a b : Nat} (h : b ≤ a) : Int32.ofNat a - Int32.ofNat b = Int32.ofNat (a - b) := by
  obtain ⟨c, rfl⟩ : ∃ c, a = c + b := ⟨a - b, by omega⟩
  rw [Int32.ofNat_add, Int32.add_sub_cancel, Nat.add_sub_cancel]
theorem pDivN {a b : Nat} (ha : a < 2147483648) (hb0 : 0 < b) (hb : b < 2147483648) : Int32.ofNat a / Int32.ofNat b = Int32.ofNat (a / b) := by
  apply Int32.toInt_inj.mp
  rw [pI_div (by rw [pN_int ha]; omega) (by rw [pN_int hb]; omega), pN_int ha, pN_int hb, pN_int (Nat.lt_of_le_of_lt (Nat.div_le_self _ _) ha)]
  rfl
theorem pMulN (a b : Nat) : Int32.ofNat a * Int32.ofNat b = Int32.ofNat (a * b) := (Int32.ofNat_mul a b).symm
/-! a sum of numbers that aren't great -/
theorem pS_sg {g : Nat → Int32} {N : Nat} (hN : N ≤ 20) (hg : ∀ t, t < N → pBd (g t) (-999) 999) : ∀ (n a : Nat) (s : Int32), a + n ≤ N → -999 * (a : Int) ≤ s.toInt → s.toInt ≤ 999 * (a : Int) → (pFo (fun j a => a + g j) n a s).toInt = s.toInt + sgS (fun t => (g t).toInt) a n ∧ -999 * ((a + n : Nat) : Int) ≤ (pFo (fun j a => a + g j) n a s).toInt ∧ (pFo (fun j a => a + g j) n a s).toInt ≤ 999 * ((a + n : Nat) : Int)
  | 0, a, s, _, h1, h2 => ⟨by rw [sgS_z, Int.add_zero]; rfl, h1, h2⟩
  | n + 1, a, s, hn, h1, h2 => by
    obtain ⟨b1, b2⟩ := hg a (by omega)
    have e : (s + g a).toInt = s.toInt + (g a).toInt := pI_add (by omega) (by omega)
    obtain ⟨x1, x2, x3⟩ := pS_sg hN hg n (a + 1) (s + g a) (by omega) (by rw [e]; omega) (by rw [e]; omega)
    have el : pFo (fun j a => a + g j) (n + 1) a s = pFo (fun j a => a + g j) n (a + 1) (s + g a) := rfl
    rw [el, sgS_n]
    rw [show a + (n + 1) = a + 1 + n by omega]
    refine ⟨?_, x2, x3⟩
    rw [x1, e]
    show s.toInt + (g a).toInt + sgS (fun t => (g t).toInt) (a + 1) n = s.toInt + ((g a).toInt + sgS (fun t => (g t).toInt) (a + 1) n)
    omega
