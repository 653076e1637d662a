/-! ===== beside ===== -/
section PBeside
variable {G : Nat × (Nat → Int32)} {d : Nat} {σ : aH} {m : St}
def bF (σ : aH) (t : Nat) : Int := (σ.1 26 t).toInt
def bBd (σ : aH) (N : Nat) : Prop := ∀ t, t < N → pBd (σ.1 26 t) (-999) 999
theorem s_sumOf {a n : Nat} (h : a + n ≤ 20) : Rn G (d + 2) 253 [.ref 26, .int (Int32.ofNat a), .int (Int32.ofNat (a + n))] σ = oI (pFo (fun j x => x + σ.1 26 j) n a 0) σ := by
  rw [e_Rh_Ways_sumOf]
  refine (pLoop (G := G) (d := d + 1) (M := M_253) (fun j (x : Int32) => (5, [some (.ref 26), none, some (.int (Int32.ofNat (a + n))), some (.int x), some (.int (Int32.ofNat j))], [], σ)) (fun j x => if j < 20 then x + σ.1 26 j else x) (a + n) ?_ n a 0 rfl).trans ?_
  · intro j x hj
    rw [c_Rh_Ways_sumOf_5, if_neg (pGo hj (by omega)), s_cell (r := 26) (n := 20) (i := j) rfl rfl (by omega) (by decide), pCI, pN_s, if_pos (show j < 20 by omega)]
  · rw [c_Rh_Ways_sumOf_5, if_pos pEnd, pFo_congr (g := fun j x => x + σ.1 26 j) n a 0 (fun j x h1 h2 => if_pos (by omega))]
theorem s_choose {n k : Nat} (hn : n ≤ 20) (hk : k ≤ n) : Rn G (d + 1) 257 [.int (Int32.ofNat n), .int (Int32.ofNat k)] σ = oI (Int32.ofNat (ch n k)) σ := by
  rw [e_Rh_Ways_choose]
  have e := pLoop0 (G := G) (d := d) (M := M_257) (α := Unit) (fun j _ => (4, [some (.int (Int32.ofNat n)), some (.int (Int32.ofNat k)), some (.int (Int32.ofNat (ch (n - k + j) j))), some (.int (Int32.ofNat (j + 1)))], [], σ)) (fun _ _ => ()) k () (by
    intro j _ hj
    have ab := ch_abs (n - k + j) j
    have le := ch_le (n - k + j) j
    have le2 : 2 ^ (n - k + j) ≤ 2 ^ 20 := Nat.pow_le_pow_right (by decide) (by omega)
    have e20 : (2 : Nat) ^ 20 = 1048576 := by decide
    have lm : ch (n - k + j) j * (n - k + (j + 1)) ≤ 1048576 * 20 := Nat.mul_le_mul (by omega) (by omega)
    have n0 : ¬ Int32.ofNat (j + 1) = 0 := fun e => absurd ((pEqL (c := 0) (n := 0) rfl (by decide) (by omega)).mp e) (by omega)
    have ev : ch (n - k + j) j * (n - k + (j + 1)) / (j + 1) = ch (n - k + (j + 1)) (j + 1) := by
      rw [Nat.mul_comm, show n - k + (j + 1) = n - k + j + 1 by omega, ← ab, Nat.mul_div_cancel_left _ (by omega)]
    rw [c_Rh_Ways_choose_4, if_neg (fun h => absurd ((pN_lt (by omega) (by omega)).mp h) (by omega))]
    unfold aNz
    rw [if_neg n0, pSubN hk, pA, pMulN, pDivN (by omega) (by omega) (by omega), ev, pN_s])
  have e0 : Int32.ofNat (ch (n - k + 0) 0) = 1 := by rw [ch_0]; rfl
  rw [e0] at e
  refine Eq.trans e ?_
  rw [c_Rh_Ways_choose_4, if_pos ((pN_lt (by omega) (by omega)).mpr (by omega)), show n - k + k = n by omega]
theorem bF_pS {N : Nat} (hN : N ≤ 20) (hb : bBd σ N) {a n : Nat} (h : a + n ≤ N) : (pFo (fun j x => x + σ.1 26 j) n a 0).toInt = sgS (bF σ) a n := by
  have e0 : (0 : Int32).toInt = 0 := rfl
  have := (pS_sg (g := fun t => σ.1 26 t) hN hb n a 0 h (by rw [e0]; omega) (by rw [e0]; omega)).1
  rw [e0, Int.zero_add] at this
  exact this
theorem s_waysFrom {N : Nat} (hN : N ≤ 20) (hb : bBd σ N) : ∀ (j a s : Nat) (x : Int32), a + j = N → s ≤ 20 → bDn (bF σ) a N → -20000 - 1000 * (a : Int) ≤ x.toInt → x.toInt ≤ 20000 + 1000 * (a : Int) → Rn G (d + j + 4) 256 [.ref 26, .int (Int32.ofNat N), .int (Int32.ofNat a), .int (Int32.ofNat s), .int x] σ = oI (Int32.ofNat (bW (bF σ) j a s x.toInt)) σ := by
  intro j
  induction j with
  | zero =>
    intro a s x ha hs hd x0 x1
    have ha : a = N := ha
    rw [show d + 0 + 4 = (d + 3) + 1 from rfl, e_Rh_Ways_waysFrom, if_neg (pN_n0 (by omega)), pSubN (by omega)]
    by_cases h1 : N - a < s
    · rw [if_pos ((pN_lt (by omega) (by omega)).mpr h1), bW_gt _ 0 a s _ (by omega)]
      rfl
    · have hs0 : s = 0 := by omega
      subst hs0
      rw [if_neg (fun h => h1 ((pN_lt (by omega) (by omega)).mp h)), pA, s_sumOf (d := d + 1) (a := a) (n := 0) (by omega), pCI, pSubN (by omega)]
      have eN : Int32.ofNat N = Int32.ofNat (N - 0 + 0) := by rw [Nat.sub_zero, Nat.add_zero]
      have r2 : Rn G (d + 3) 253 [.ref 26, .int (Int32.ofNat (N - 0)), .int (Int32.ofNat N)] σ = oI (pFo (fun j x => x + σ.1 26 j) 0 (N - 0) 0) σ := by
        rw [eN]
        exact s_sumOf (d := d + 1) (by omega)
      have z : ∀ i, pFo (fun j x => x + σ.1 26 j) 0 i 0 = (0 : Int32) := fun _ => rfl
      rw [r2, pCI, z, z, bW_z]
      have e0 : (0 : Int32).toInt = 0 := rfl
      by_cases h2 : x ≤ 0
      · rw [if_pos h2, if_neg (pNotLt.mpr h2), s_choose (d := d + 2) (by omega) (by omega), pCI, ch_0]
        rw [pLe, e0] at h2
        rw [if_pos ⟨rfl, h2⟩]
      · rw [if_neg h2]
        rw [pLe, e0] at h2
        rw [if_neg (fun h => h2 h.2)]
        rfl
  | succ j ih =>
    intro a s x ha hs hd x0 x1
    have hd' : bDn (bF σ) (a + 1) N := fun t h1 h2 => hd t (by omega) h2
    have hdj : bDn (bF σ) a (a + (j + 1)) := by rw [ha]; exact hd
    rw [show d + (j + 1) + 4 = (d + j + 4) + 1 from rfl, e_Rh_Ways_waysFrom, if_neg (pN_n0 (by omega)), pSubN (by omega)]
    by_cases h1 : N - a < s
    · rw [if_pos ((pN_lt (by omega) (by omega)).mpr h1), bW_gt _ (j + 1) a s _ (by omega)]
      rfl
    · rw [if_neg (fun h => h1 ((pN_lt (by omega) (by omega)).mp h)), pA, s_sumOf (d := d + j + 2) (a := a) (n := s) (by omega), pCI, pSubN (by omega)]
      have s1 := bF_pS hN hb (a := a) (n := s) (by omega)
      have s2 := bF_pS hN hb (a := N - s) (n := s) (by omega)
      have r2 : Rn G (d + j + 4) 253 [.ref 26, .int (Int32.ofNat (N - s)), .int (Int32.ofNat N)] σ = oI (pFo (fun j x => x + σ.1 26 j) s (N - s) 0) σ := by
        have e := s_sumOf (G := G) (σ := σ) (d := d + j + 2) (a := N - s) (n := s) (by omega)
        rw [show N - s + s = N by omega] at e
        exact e
      rw [r2, pCI]
      by_cases h2 : x ≤ pFo (fun j x => x + σ.1 26 j) s a 0
      · rw [if_pos h2]
        by_cases h3 : pFo (fun j x => x + σ.1 26 j) s (N - s) 0 < x
        · rw [if_pos h3]
          cases s with
          | zero => exact absurd h3 (pNotLt.mpr h2)
          | succ s =>
            obtain ⟨b1, b2⟩ := hb a (by omega)
            have ex : (x - σ.1 26 a).toInt = x.toInt - bF σ a := pI_sub (by omega) (by omega)
            have eF : bF σ a = (σ.1 26 a).toInt := rfl
            have i1 := ih (a + 1) s (x - σ.1 26 a) (by omega) (by omega) hd' (by rw [ex, eF]; omega) (by rw [ex, eF]; omega)
            have i2 := ih (a + 1) (s + 1) x (by omega) hs hd' (by omega) (by omega)
            rw [s_cell (r := 26) (n := 20) (i := a) rfl rfl (by omega) (by decide), pCI, pN_s, show Int32.ofNat (s + 1) - 1 = Int32.ofNat s from pS1 (by omega), i1, pCI, i2, pCI, pA, ex, bW_s]
        · rw [if_neg h3, s_choose (d := d + j + 3) (by omega) (by omega), pCI]
          have h4 := pNotLt.mp h3
          rw [pLe, s2] at h4
          rw [bW_min (j + 1) a s x.toInt hdj (by omega) (by rw [show a + (j + 1) - s = N - s by omega]; exact h4), show N - a = j + 1 by omega]
      · rw [if_neg h2]
        have h4 := pNotLe.mp h2
        rw [pLt, s1] at h4
        rw [bW_max (j + 1) a s x.toInt hdj (by omega) h4]
        rfl
/-! sorted, the greatest first -/
def bInv (σ a : aH) (N i : Nat) : Prop := pSame [26] σ a ∧ bBd a N ∧ bDn (bF a) 0 i ∧ ∀ k x, bW (bF a) N 0 k x = bW (bF σ) N 0 k x
theorem s_sortIn {N i : Nat} (hN : N ≤ 20) (hi : i < N) : ∀ (j : Nat) (a : aH), j ≤ i → pSame [26] σ a → bBd a N → (∀ k x, bW (bF a) N 0 k x = bW (bF σ) N 0 k x) → (∀ t, t + 1 ≤ i → t + 1 ≠ j → bF a (t + 1) ≤ bF a t) → (0 < j → j < i → bF a (j + 1) ≤ bF a (j - 1)) → ∃ b, bInv σ b N (i + 1) ∧ Lq G (d + 2) M_255 (12, [some (.ref 25), some (.int (Int32.ofNat i)), some (.int (Int32.ofNat j)), none], [], a) = Lq G (d + 2) M_255 (2, [some (.ref 25), some (.int (Int32.ofNat (i + 1))), none, none], [], b)
  | 0, a, _, f, b1, w, h1, _ => by
    refine ⟨a, ⟨f, b1, fun t _ h2 => h1 t (by omega) (by omega), w⟩, ?_⟩
    rw [c_Rh_Ways_sortGreatestFirst_12, if_pos (show Int32.ofNat 0 ≤ 0 from Int32.le_refl 0), pN_s]
  | j + 1, a, hj, f, b1, w, h1, h2 => by
    have n0 : ¬ Int32.ofNat (j + 1) ≤ 0 := fun h => absurd ((pN_le (b := 0) (by omega) (by decide)).mp h) (by omega)
    have ej : Int32.ofNat (j + 1) - 1 = Int32.ofNat j := pS1 (by omega)
    rw [c_Rh_Ways_sortGreatestFirst_12, if_neg n0, ej, s_cell (r := 26) (n := 20) (i := j) rfl rfl (by omega) (by decide), pCI, s_cell (r := 26) (n := 20) (i := j + 1) rfl rfl (by omega) (by decide), pCI]
    by_cases h3 : a.1 26 (j + 1) ≤ a.1 26 j
    · refine ⟨a, ⟨f, b1, fun t _ ht => ?_, w⟩, by rw [if_pos h3, pN_s]⟩
      by_cases e : t = j
      · subst e
        exact pLe.mp h3
      · exact h1 t (by omega) (by omega)
    · have h3' : bF a j < bF a (j + 1) := pLt.mp (pNotLe.mp h3)
      have gj : bF (aSI (aSI a 26 (j + 1) (a.1 26 j)) 26 j (a.1 26 (j + 1))) j = bF a (j + 1) := by
        unfold bF
        rw [pSI_at]
      have gj1 : bF (aSI (aSI a 26 (j + 1) (a.1 26 j)) 26 j (a.1 26 (j + 1))) (j + 1) = bF a j := by
        unfold bF
        rw [pSI_of (by omega), pSI_at]
      have go : ∀ t, t ≠ j → t ≠ j + 1 → bF (aSI (aSI a 26 (j + 1) (a.1 26 j)) 26 j (a.1 26 (j + 1))) t = bF a t := by
        intro t t1 t2
        unfold bF
        rw [pSI_of t1, pSI_of t2]
      have bb : bBd (aSI (aSI a 26 (j + 1) (a.1 26 j)) 26 j (a.1 26 (j + 1))) N := by
        intro t ht
        by_cases e1 : t = j
        · subst e1
          rw [pSI_at]
          exact b1 (t + 1) (by omega)
        · by_cases e2 : t = j + 1
          · subst e2
            rw [pSI_of (by omega), pSI_at]
            exact b1 j (by omega)
          · rw [pSI_of e1, pSI_of e2]
            exact b1 t ht
      obtain ⟨b, hb, e⟩ := s_sortIn hN hi j (aSI (aSI a 26 (j + 1) (a.1 26 j)) 26 j (a.1 26 (j + 1))) (by omega) ((f.si (by decide)).si (by decide)) bb (fun k x => by
        rw [bW_swap (f := bF a) (p := j) gj gj1 go N 0 k x (by omega) (by omega), w]) (by
        intro t t1 t2
        by_cases e1 : t = j
        · subst e1
          rw [gj, gj1]
          omega
        · by_cases e2 : t = j + 1
          · subst e2
            rw [gj1, go _ (by omega) (by omega)]
            have := h2 (by omega) (by omega)
            rw [show j + 1 - 1 = j by omega] at this
            exact this
          · by_cases e3 : t + 1 = j
            · exact absurd e3 t2
            · rw [go _ (by omega) (by omega), go _ (by omega) (by omega)]
              exact h1 t t1 (by omega)) (by
        intro p1 p2
        rw [gj1, go _ (by omega) (by omega)]
        have := h1 (j - 1) (by omega) (by omega)
        rw [show j - 1 + 1 = j by omega] at this
        exact this)
      refine ⟨b, hb, ?_⟩
      refine Eq.trans ?_ e
      rw [if_neg h3, s_cell (r := 26) (n := 20) (i := j + 1) rfl rfl (by omega) (by decide), pCI, s_cell (r := 26) (n := 20) (i := j) rfl rfl (by omega) (by decide), pCI, s_put (r := 26) (n := 20) (i := j + 1) rfl rfl (by omega) (by decide), pCV, s_put (r := 26) (n := 20) (i := j) rfl rfl (by omega) (by decide), pCV, pSm1 (show 1 ≤ j + 1 by omega), show j + 1 - 1 = j by omega]
theorem s_sortOut {N : Nat} (hN : N ≤ 20) (e25 : σ.1 25 1 = Int32.ofNat N) : ∀ (k i : Nat) (a : aH), i + k = N → bInv σ a N i → ∃ b, bInv σ b N N ∧ Lq G (d + 2) M_255 (2, [some (.ref 25), some (.int (Int32.ofNat i)), none, none], [], a) = oV b
  | 0, i, a, hi, h => by
    have hi : i = N := hi
    subst hi
    refine ⟨a, h, ?_⟩
    rw [c_Rh_Ways_sortGreatestFirst_2, h.1.at (by decide), e25, if_pos pEnd]
  | k + 1, i, a, hi, h => by
    obtain ⟨b, hb, e⟩ := s_sortIn (G := G) (d := d) (σ := σ) hN (show i < N by omega) i a (Nat.le_refl i) h.1 h.2.1 h.2.2.2 (fun t t1 t2 => h.2.2.1 t (by omega) (by omega)) (fun _ h2 => absurd h2 (Nat.lt_irrefl i))
    obtain ⟨c, hc, e2⟩ := s_sortOut hN e25 k (i + 1) b (by omega) hb
    refine ⟨c, hc, ?_⟩
    rw [c_Rh_Ways_sortGreatestFirst_2, h.1.at (by decide), e25, if_neg (pGo (by omega) (by omega)), e, e2]
theorem s_sort {N : Nat} (hN : N ≤ 20) (e25 : σ.1 25 1 = Int32.ofNat N) (hb : bBd σ N) : ∃ b, bInv σ b N N ∧ Rn G (d + 3) 255 [.ref 25] σ = oV b := by
  rw [e_Rh_Ways_sortGreatestFirst]
  by_cases h : N = 0
  · subst h
    refine ⟨σ, ⟨pSame.rfl', hb, fun t _ h => absurd h (Nat.not_lt_zero _), fun _ _ => rfl⟩, ?_⟩
    rw [c_Rh_Ways_sortGreatestFirst_2, e25, if_pos (by decide)]
  · exact s_sortOut hN e25 (N - 1) 1 σ (by omega) ⟨pSame.rfl', hb, fun t _ h => by omega, fun _ _ => rfl⟩
/-! the numbers of two sittings -/
def bv (h : Ho) (s : Sh) (w k : Nat) : Int32 := if w = 0 then mSum h s k false else s.2 k (11 + w)
def bVl (h : Ho) (s : Sh) (w sit : Nat) (L : List Nat) : List Int32 := (L.filter fun k => decide (s.2 k 17 = Int32.ofNat sit)).map (bv h s w)
theorem mSum_bd {h : Ho} {s : Sh} (hk : Hok h) (hs : Sok h s) {k : Nat} (h1 : k < s.1) {sd : Bool} : pBd (mSum h s k sd) (-36) 36 := by
  have h3 := hk.1.2.2.2.1
  have e0 : (0 : Int32).toInt = 0 := rfl
  obtain ⟨_, _, b, _⟩ := hs.2 k h1
  have g : ∀ n : Nat, n ≤ 12 → -3 * (n : Int) ≤ (pFo (fun j a => if hN h j = sd then a + s.2 k j else a) n 0 0).toInt ∧ (pFo (fun j a => if hN h j = sd then a + s.2 k j else a) n 0 0).toInt ≤ 3 * (n : Int) := by
    intro n
    induction n with
    | zero => intro _; exact ⟨(by decide : -3 * ((0 : Nat) : Int) ≤ (0 : Int32).toInt), (by decide : (0 : Int32).toInt ≤ 3 * ((0 : Nat) : Int))⟩
    | succ n ih =>
      intro hn
      obtain ⟨a0, a1⟩ := ih (by omega)
      obtain ⟨c0, c1⟩ := b n (by omega)
      rw [pFo_snoc, Nat.zero_add]
      generalize pFo (fun j a => if hN h j = sd then a + s.2 k j else a) n 0 0 = x at a0 a1
      by_cases q : hN h n = sd
      · rw [if_pos q, pI_add (by omega) (by omega)]
        omega
      · rw [if_neg q]
        omega
  obtain ⟨a, c⟩ := g (hn h 3) h3
  unfold mSum pBd
  omega
theorem bv_bd {h : Ho} {s : Sh} (hk : Hok h) (hs : Sok h s) {w k : Nat} (hw : w < 4) (h1 : k < s.1) : pBd (bv h s w k) (-999) 999 := by
  unfold bv
  by_cases h0 : w = 0
  · rw [if_pos h0]
    exact (mSum_bd hk hs h1).mono (by decide) (by decide)
  · rw [if_neg h0]
    obtain ⟨_, _, _, b12, b13, b14, _⟩ := hs.2 k h1
    rcases (show w = 1 ∨ w = 2 ∨ w = 3 by omega) with rfl | rfl | rfl
    · exact b12
    · exact b13.mono (by decide) (by decide)
    · exact b14.mono (by decide) (by decide)
/-- what the class's row of numbers holds -/
def bHc (σ : aH) (X : List Int32) : Prop := σ.1 25 1 = Int32.ofNat X.length ∧ ∀ j, j < 20 → j < X.length → σ.1 26 j = X.getD j 0
theorem gD_app {X : List Int32} {x : Int32} {j : Nat} (h : j < X.length) : (X ++ [x]).getD j 0 = X.getD j 0 := by
  rw [List.getD_eq_getElem?_getD, List.getD_eq_getElem?_getD, List.getElem?_append_left h]
theorem gD_last {X : List Int32} {x : Int32} : (X ++ [x]).getD X.length 0 = x := by
  rw [List.getD_eq_getElem?_getD, List.getElem?_append_right (Nat.le_refl _), Nat.sub_self]
  rfl
theorem s_wadd {X : List Int32} (hX : X.length < 2147483648) (g : bHc σ X) {x : Int32} : ∃ σ', Rn G (d + 2) 251 [.ref 25, .int x] σ = oV σ' ∧ pSame [25, 26] σ σ' ∧ bHc σ' (X ++ [x]) := by
  obtain ⟨g1, g2⟩ := g
  rw [e_Rh_Ways_add, g1]
  have el : (X ++ [x]).length = X.length + 1 := by rw [List.length_append]; rfl
  by_cases h : X.length < 20
  · refine ⟨aSI (aSI σ 26 X.length x) 25 1 (Int32.ofNat (X.length + 1)), ?_, (pSame.rfl'.si (by decide)).si (by decide), by rw [pSI_at, el], fun j hj hj2 => ?_⟩
    · rw [s_put (r := 26) (n := 20) (i := X.length) rfl rfl h (by decide), pCV, pSI_ne (by decide), g1, pN_s]
    · rw [el] at hj2
      rw [pSI_ne (by decide)]
      by_cases e : j = X.length
      · subst e
        rw [pSI_at, gD_last]
      · rw [pSI_of e, gD_app (by omega)]
        exact g2 j hj (by omega)
  · refine ⟨aSI σ 25 1 (Int32.ofNat (X.length + 1)), ?_, pSame.rfl'.si (by decide), by rw [pSI_at, el], fun j hj hj2 => ?_⟩
    · rw [s_putO (r := 26) (n := 20) rfl (Or.inr ((pN_le (by decide) hX).mpr (by omega))), pCV, g1, pN_s]
    · rw [pSI_ne (by decide), gD_app (by omega)]
      exact g2 j hj (by omega)
theorem bVl_snoc {h : Ho} {s : Sh} {w sit i : Nat} : bVl h s w sit ((List.range (i + 1)).filter fun k => decide (mOff h s k = -1)) = bVl h s w sit ((List.range i).filter fun k => decide (mOff h s k = -1)) ++ (if mOff h s i = -1 ∧ s.2 i 17 = Int32.ofNat sit then [bv h s w i] else []) := by
  unfold bVl
  rw [List.range_succ, List.filter_append]
  by_cases h1 : mOff h s i = -1
  · by_cases h2 : s.2 i 17 = Int32.ofNat sit
    · rw [if_pos ⟨h1, h2⟩]
      simp [h1, h2]
    · rw [if_neg (fun q => h2 q.2)]
      simp [h1, h2]
  · rw [if_neg (fun q => h1 q.1)]
    simp [h1]
theorem s_gatherW (ho : okAll m) (qs : cSh σ 13 m.2.1) (v : cSv σ m.1 m.2.1) {w sit : Nat} (hw : w < 4) {X : List Int32} (hX : X.length ≤ 60) (g : bHc σ X) : ∃ σ', Rn G (d + 4) 250 [.ref 0, .int (Int32.ofNat sit), .int (Int32.ofNat w)] σ = oI (Int32.ofNat (bVl m.1 m.2.1 w sit (mCl m.1 m.2.1)).length) σ' ∧ pSame [25, 26] σ σ' ∧ bHc σ' (X ++ bVl m.1 m.2.1 w sit (mCl m.1 m.2.1)) := by
  have h60 := ho.2.1.1
  rw [e_Rh_gather]
  have len : ∀ i, (bVl m.1 m.2.1 w sit ((List.range i).filter fun k => decide (mOff m.1 m.2.1 k = -1))).length ≤ i := by
    intro i
    unfold bVl
    rw [List.length_map]
    have a := List.length_filter_le (fun k => decide (m.2.1.2 k 17 = Int32.ofNat sit)) ((List.range i).filter fun k => decide (mOff m.1 m.2.1 k = -1))
    have b := List.length_filter_le (fun k => decide (mOff m.1 m.2.1 k = -1)) (List.range i)
    rw [List.length_range] at b
    omega
  obtain ⟨b, ⟨hb1, hb2, hb3⟩, e⟩ := pLoopR0 (G := G) (d := d + 3) (M := M_250) (fun i (a : Int32 × aH) => (5, [some (.ref 0), some (.int (Int32.ofNat sit)), some (.int (Int32.ofNat w)), some (.int a.1), some (.int (Int32.ofNat i))], [], a.2)) (fun i a => pSame [25, 26] σ a.2 ∧ a.1 = Int32.ofNat (bVl m.1 m.2.1 w sit ((List.range i).filter fun k => decide (mOff m.1 m.2.1 k = -1))).length ∧ bHc a.2 (X ++ bVl m.1 m.2.1 w sit ((List.range i).filter fun k => decide (mOff m.1 m.2.1 k = -1)))) m.2.1.1 (0, σ) ⟨pSame.rfl', rfl, by
    show bHc σ (X ++ [])
    rw [List.append_nil]
    exact g⟩ (by
    intro i a hi ⟨ha1, ha2, ha3⟩
    have qsa := qs.ps ha1 (by decide) (by decide)
    have va := v.ps ha1 (by decide)
    have li := len i
    show ∃ b, _ ∧ Lq G (d + 3) M_250 (5, [some (.ref 0), some (.int (Int32.ofNat sit)), some (.int (Int32.ofNat w)), some (.int a.1), some (.int (Int32.ofNat i))], [], a.2) = _
    rw [c_Rh_gather_5, qsa.1, if_neg (pGo hi (by omega)), s_counts va h60 hi, pCI, pB0, bVl_snoc]
    by_cases h1 : mOff m.1 m.2.1 i = -1
    · rw [if_pos h1, s_getN (x := 17) (c := 17) qsa h60 hi (by decide) rfl, pCI]
      by_cases h2 : m.2.1.2 i 17 = Int32.ofNat sit
      · obtain ⟨σ1, r1, f1, g1⟩ := s_wadd (G := G) (d := d + 1) (X := X ++ bVl m.1 m.2.1 w sit ((List.range i).filter fun k => decide (mOff m.1 m.2.1 k = -1))) (by rw [List.length_append]; omega) ha3 (x := bv m.1 m.2.1 w i)
        refine ⟨(Int32.ofNat ((bVl m.1 m.2.1 w sit ((List.range i).filter fun k => decide (mOff m.1 m.2.1 k = -1))).length + 1), σ1), ⟨ha1.trans f1, ?_, ?_⟩, ?_⟩
        · rw [if_pos ⟨h1, h2⟩, List.length_append]
          rfl
        · rw [if_pos ⟨h1, h2⟩, ← List.append_assoc]
          exact g1
        · rw [if_pos h2, ha2]
          by_cases h0 : w = 0
          · have ev : bv m.1 m.2.1 w i = mSum m.1 m.2.1 i false := if_pos h0
            rw [ev] at r1
            rw [if_pos (show Int32.ofNat w = 0 by rw [h0]; rfl), s_feltOf va h60 hi, pCI, r1, pCV, pN_s, pN_s]
          · have ev : bv m.1 m.2.1 w i = m.2.1.2 i (11 + w) := if_neg h0
            rw [ev] at r1
            have ec : (12 : Int32) + Int32.ofNat w - 1 = Int32.ofNat (11 + w) := by
              rw [show (12 : Int32) = Int32.ofNat 12 from rfl, pA, pS1 (by omega), show 12 + w - 1 = 11 + w by omega]
            rw [if_neg (fun h : Int32.ofNat w = 0 => h0 ((pEqL (c := 0) (n := 0) rfl (by decide) (by omega)).mp h)), ec, s_getN (x := Int32.ofNat (11 + w)) (c := 11 + w) qsa h60 hi (by omega) rfl, pCI, r1, pCV, pN_s, pN_s]
      · refine ⟨a, ⟨ha1, ?_, ?_⟩, by rw [if_neg h2, pN_s]⟩
        · rw [if_neg (fun q => h2 q.2), List.append_nil]
          exact ha2
        · rw [if_neg (fun q => h2 q.2), List.append_nil]
          exact ha3
    · refine ⟨a, ⟨ha1, ?_, ?_⟩, by rw [if_neg h1, pN_s]⟩
      · rw [if_neg (fun q => h1 q.1), List.append_nil]
        exact ha2
      · rw [if_neg (fun q => h1 q.1), List.append_nil]
        exact ha3)
  refine ⟨b.2, ?_, hb1, hb3⟩
  refine Eq.trans e ?_
  show Lq G (d + 3) M_250 (5, [some (.ref 0), some (.int (Int32.ofNat sit)), some (.int (Int32.ofNat w)), some (.int b.1), some (.int (Int32.ofNat m.2.1.1))], [], b.2) = _
  rw [c_Rh_gather_5, (qs.ps hb1 (by decide) (by decide)).1, if_pos pEnd, hb2]
  rfl
def bIs (V : List Int32) (n : Nat) : Int32 := pFo (fun j x => x + V.getD j 0) n 0 0
def bFV (V : List Int32) (t : Nat) : Int := (V.getD t 0).toInt
def bVal (A B : List Int32) (z : Int32) : Int32 := if 10 < A.length ∨ 10 < B.length then -1 else if z = 0 then bIs (A ++ B) A.length else if z = 1 then Int32.ofNat (bW (bFV (A ++ B)) (A.length + B.length) 0 A.length (bIs (A ++ B) A.length).toInt) else Int32.ofNat (ch (A.length + B.length) A.length)
def vOk (V : List Int32) : Prop := ∀ j, j < V.length → pBd (V.getD j 0) (-999) 999
theorem bVl_ok {h : Ho} {s : Sh} (hk : Hok h) (hs : Sok h s) {w sit : Nat} (hw : w < 4) {L : List Nat} (hL : ∀ k, k ∈ L → k < s.1) : ∀ x, x ∈ bVl h s w sit L → pBd x (-999) 999 := by
  intro x hx
  obtain ⟨k, hk2, e⟩ := List.mem_map.mp hx
  rw [← e]
  exact bv_bd hk hs hw (hL k (List.mem_filter.mp hk2).1)
theorem vOk_of {V : List Int32} (h : ∀ x, x ∈ V → pBd x (-999) 999) : vOk V := by
  intro j hj
  refine h _ ?_
  rw [List.getD_eq_getElem?_getD, List.getElem?_eq_getElem hj]
  exact List.getElem_mem hj
theorem bIs_bd {V : List Int32} (hV : vOk V) {n : Nat} (hn : n ≤ V.length) (h20 : V.length ≤ 20) : -19980 ≤ (bIs V n).toInt ∧ (bIs V n).toInt ≤ 19980 := by
  have e0 : (0 : Int32).toInt = 0 := rfl
  obtain ⟨_, a, b⟩ := pS_sg (g := fun t => V.getD t 0) h20 hV n 0 0 (by omega) (by rw [e0]; omega) (by rw [e0]; omega)
  unfold bIs
  omega
theorem s_besideC {A B : List Int32} {z : Int32} (hA : A.length ≤ 60) (hB : B.length ≤ 60) (g : bHc σ (A ++ B)) (hV : vOk (A ++ B)) : ∃ σ', pSame [26] σ σ' ∧ (if 10 < Int32.ofNat A.length then oI (-1) σ else if Int32.ofNat B.length ≤ 10 then (if z = 0 then aCI (Rn G (d + 40) 252 [.ref 25, .int (Int32.ofNat A.length)] σ) fun v16 σ15 => oI v16 σ15 else if z = 1 then aCI (Rn G (d + 40) 254 [.ref 25, .int (Int32.ofNat A.length)] σ) fun v18 σ17 => oI v18 σ17 else aCI (Rn G (d + 40) 257 [.int (Int32.ofNat A.length + Int32.ofNat B.length), .int (Int32.ofNat A.length)] σ) fun v20 σ19 => oI v20 σ19) else oI (-1) σ) = oI (bVal A B z) σ' := by
  obtain ⟨g1, g2⟩ := g
  rw [List.length_append] at g1
  by_cases h1 : 10 < A.length
  · refine ⟨σ, pSame.rfl', ?_⟩
    rw [if_pos (show (10 : Int32) < Int32.ofNat A.length from (pN_lt (a := 10) (by decide) (by omega)).mpr h1)]
    unfold bVal
    rw [if_pos (Or.inl h1)]
  · rw [if_neg (fun h : (10 : Int32) < Int32.ofNat A.length => h1 ((pN_lt (a := 10) (by decide) (by omega)).mp h))]
    by_cases h2 : 10 < B.length
    · refine ⟨σ, pSame.rfl', ?_⟩
      rw [if_neg (fun h : Int32.ofNat B.length ≤ 10 => absurd ((pN_le (b := 10) (by omega) (by decide)).mp h) (by omega))]
      unfold bVal
      rw [if_pos (Or.inr h2)]
    · have hN : A.length + B.length ≤ 20 := by omega
      have lV : (A ++ B).length = A.length + B.length := List.length_append
      have hb : bBd σ (A.length + B.length) := fun t ht => by
        rw [g2 t (by omega) (by omega)]
        exact hV t (by omega)
      have es : pFo (fun j x => x + σ.1 26 j) A.length 0 0 = bIs (A ++ B) A.length := pFo_congr A.length 0 0 fun j x _ hj => by rw [g2 j (by omega) (by omega)]
      have r1 : ∀ d, Rn G (d + 3) 252 [.ref 25, .int (Int32.ofNat A.length)] σ = oI (bIs (A ++ B) A.length) σ := by
        intro d
        have r := s_sumOf (G := G) (d := d) (σ := σ) (a := 0) (n := A.length) (by omega)
        rw [Nat.zero_add] at r
        have r' : Rn G (d + 2) 253 [.ref 26, .int 0, .int (Int32.ofNat A.length)] σ = oI (pFo (fun j x => x + σ.1 26 j) A.length 0 0) σ := r
        rw [e_Rh_Ways_sumOfFirst, r', pCI, es]
      have hv : bVal A B z = if z = 0 then bIs (A ++ B) A.length else if z = 1 then Int32.ofNat (bW (bFV (A ++ B)) (A.length + B.length) 0 A.length (bIs (A ++ B) A.length).toInt) else Int32.ofNat (ch (A.length + B.length) A.length) := if_neg (by omega)
      rw [if_pos (show Int32.ofNat B.length ≤ 10 from (pN_le (b := 10) (by omega) (by decide)).mpr (by omega)), hv]
      by_cases z0 : z = 0
      · refine ⟨σ, pSame.rfl', ?_⟩
        rw [if_pos z0, if_pos z0, r1 (d + 37), pCI]
      · by_cases z1 : z = 1
        · obtain ⟨b, hb1, e⟩ := s_sort (G := G) (d := d + 36) hN g1 hb
          obtain ⟨i0, i1⟩ := bIs_bd hV (n := A.length) (by omega) (by omega)
          have e25 : b.1 25 1 = Int32.ofNat (A.length + B.length) := by rw [hb1.1.at (by decide)]; exact g1
          have rw1 := s_waysFrom (G := G) (d := d + 35 - (A.length + B.length)) (σ := b) hN hb1.2.1 (A.length + B.length) 0 A.length (bIs (A ++ B) A.length) (Nat.zero_add _) (by omega) hb1.2.2.1 (by omega) (by omega)
          rw [show d + 35 - (A.length + B.length) + (A.length + B.length) + 4 = d + 39 by omega, hb1.2.2.2] at rw1
          have rw2 : Rn G (d + 39) 256 [.ref 26, .int (Int32.ofNat (A.length + B.length)), .int 0, .int (Int32.ofNat A.length), .int (bIs (A ++ B) A.length)] b = oI (Int32.ofNat (bW (bF σ) (A.length + B.length) 0 A.length (bIs (A ++ B) A.length).toInt)) b := rw1
          have ec : bW (bF σ) (A.length + B.length) 0 A.length (bIs (A ++ B) A.length).toInt = bW (bFV (A ++ B)) (A.length + B.length) 0 A.length (bIs (A ++ B) A.length).toInt := bW_congr _ _ _ _ fun t _ ht => by
            unfold bF bFV
            rw [g2 t (by omega) (by omega)]
          refine ⟨b, hb1.1, ?_⟩
          rw [if_neg z0, if_neg z0, if_pos z1, if_pos z1, e_Rh_Ways_asGreat, r1 (d + 36), pCI, e, pCV, e25, rw2, pCI, pCI, ec]
        · refine ⟨σ, pSame.rfl', ?_⟩
          rw [if_neg z0, if_neg z0, if_neg z1, if_neg z1, pA, s_choose (d := d + 39) hN (by omega), pCI]
/-! the reference -/
def bHm (σ : aH) (X : List Int32) : Prop := ∀ j, j < X.length → σ.1 58 j = X.getD j 0
theorem bVl_cons {h : Ho} {s : Sh} {w sit k : Nat} {L : List Nat} : bVl h s w sit (k :: L) = if s.2 k 17 = Int32.ofNat sit then bv h s w k :: bVl h s w sit L else bVl h s w sit L := by
  unfold bVl
  by_cases h2 : s.2 k 17 = Int32.ofNat sit
  · rw [if_pos h2]
    simp [h2]
  · rw [if_neg h2]
    simp [h2]
theorem drop_getD {L : List Nat} {i : Nat} (h : i < L.length) : L.drop i = L.getD i 0 :: L.drop (i + 1) := by
  rw [List.drop_eq_getElem_cons h, List.getD_eq_getElem?_getD, List.getElem?_eq_getElem h]
  rfl
theorem s_gatM (ho : okAll m) (q : rHo σ m.1) (qs : rSh σ 40 53 54 m.2.1) (g : rG σ (mCl m.1 m.2.1)) {w sit : Nat} (hw : w < 4) {x1 x2 x4 x6 x7 : Int32} (hx : (x7 = 0 ∧ x1 = Int32.ofNat sit) ∨ (¬ x7 = 0 ∧ x2 = Int32.ofNat sit)) : ∀ (k j : Nat) (X : List Int32) (c : Nat) (a : aH), j + k = (mCl m.1 m.2.1).length → c ≤ 10 → X.length ≤ 10 + c → pSame [58] σ a → bHm a X → (c + (bVl m.1 m.2.1 w sit ((mCl m.1 m.2.1).drop j)).length ≤ 10 ∧ ∃ b, pSame [58] σ b ∧ bHm b (X ++ bVl m.1 m.2.1 w sit ((mCl m.1 m.2.1).drop j)) ∧ Lq G (d + 3) M_258 (95, [some (.ref 33), some (.int x1), some (.int x2), some (.int (Int32.ofNat w)), some (.int x4), some (.int (Int32.ofNat X.length)), some (.int x6), some (.int x7), some (.int (Int32.ofNat c)), some (.int (Int32.ofNat j)), none, none, none, none], [], a) = Lq G (d + 3) M_258 (95, [some (.ref 33), some (.int x1), some (.int x2), some (.int (Int32.ofNat w)), some (.int x4), some (.int (Int32.ofNat (X ++ bVl m.1 m.2.1 w sit ((mCl m.1 m.2.1).drop j)).length)), some (.int x6), some (.int x7), some (.int (Int32.ofNat (c + (bVl m.1 m.2.1 w sit ((mCl m.1 m.2.1).drop j)).length))), some (.int (Int32.ofNat (mCl m.1 m.2.1).length)), none, none, none, none], [], b)) ∨ (10 < c + (bVl m.1 m.2.1 w sit ((mCl m.1 m.2.1).drop j)).length ∧ ∃ b, pSame [58] σ b ∧ Lq G (d + 3) M_258 (95, [some (.ref 33), some (.int x1), some (.int x2), some (.int (Int32.ofNat w)), some (.int x4), some (.int (Int32.ofNat X.length)), some (.int x6), some (.int x7), some (.int (Int32.ofNat c)), some (.int (Int32.ofNat j)), none, none, none, none], [], a) = oI (-1) b)
  | 0, j, X, c, a, hj, hc, hX, fa, ha => by
    have hj : j = (mCl m.1 m.2.1).length := hj
    have e : (mCl m.1 m.2.1).drop j = [] := List.drop_eq_nil_of_le (by omega)
    have e2 : bVl m.1 m.2.1 w sit [] = [] := rfl
    rw [e, e2, List.append_nil, hj]
    exact Or.inl ⟨hc, a, fa, ha, rfl⟩
  | k + 1, j, X, c, a, hj, hc, hX, fa, ha => by
    have h60 := ho.2.1.1
    have hk := ho.1
    have hlen := mCl_len (h := m.1) (s := m.2.1)
    have ga := g.ps fa (by decide) (by decide)
    have qa := q.ps fa (by decide)
    have qsa := qs.ps fa (by decide)
    obtain ⟨g1, g2⟩ := ga.elem (show j < (mCl m.1 m.2.1).length by omega)
    rw [drop_getD (show j < (mCl m.1 m.2.1).length by omega), bVl_cons]
    generalize (mCl m.1 m.2.1).getD j 0 = n at g1 g2 ⊢
    by_cases h2 : m.2.1.2 n 17 = Int32.ofNat sit
    · rw [if_pos h2]
      have el : (X ++ [bv m.1 m.2.1 w n]).length = X.length + 1 := by rw [List.length_append]; rfl
      by_cases h10 : c = 10
      · refine Or.inr ⟨by rw [List.length_cons]; omega, a, fa, ?_⟩
        rw [c_Md_beside_95, ga.1, if_neg (pGo (by omega) (by omega)), pIx (by omega) (by decide), g2, s_inOf qsa h60 g1, pCI, h2, h10]
        rcases hx with ⟨e7, e1⟩ | ⟨e7, e1⟩
        · rw [if_pos e7, if_pos e1.symm, if_pos (show Int32.ofNat 10 = 10 from rfl)]
        · rw [if_neg e7, if_pos e1.symm, if_pos (show Int32.ofNat 10 = 10 from rfl)]
      · have n10 : ¬ Int32.ofNat c = 10 := fun h => h10 ((pEqL (c := 10) (n := 10) rfl (by decide) (by omega)).mp h)
        have ec : ∀ n, 17 * n + 12 + w - 1 = 17 * n + (11 + w) := fun n => by omega
        have st : Lq G (d + 3) M_258 (95, [some (.ref 33), some (.int x1), some (.int x2), some (.int (Int32.ofNat w)), some (.int x4), some (.int (Int32.ofNat X.length)), some (.int x6), some (.int x7), some (.int (Int32.ofNat c)), some (.int (Int32.ofNat j)), none, none, none, none], [], a) = Lq G (d + 3) M_258 (95, [some (.ref 33), some (.int x1), some (.int x2), some (.int (Int32.ofNat w)), some (.int x4), some (.int (Int32.ofNat (X ++ [bv m.1 m.2.1 w n]).length)), some (.int x6), some (.int x7), some (.int (Int32.ofNat (c + 1))), some (.int (Int32.ofNat (j + 1))), none, none, none, none], [], aSI a 58 X.length (bv m.1 m.2.1 w n)) := by
          rw [c_Md_beside_95, ga.1, if_neg (pGo (by omega) (by omega)), pIx (by omega) (by decide), g2, s_inOf qsa h60 g1, pCI, h2, el]
          have fin : (if Int32.ofNat w = 0 then aIx (Int32.ofNat j) 60 fun j4 => aCI (Rn G (d + 3) 135 [.ref 33, .int (a.1 56 j4), .int (0 : Int32)] a) fun v6 σ5 => aIx (Int32.ofNat X.length) 20 fun j7 => Lq G (d + 3) M_258 (95, [some (.ref 33), some (.int x1), some (.int x2), some (.int (Int32.ofNat w)), some (.int x4), some (.int (Int32.ofNat X.length + (1 : Int32))), some (.int x6), some (.int x7), some (.int (Int32.ofNat c + (1 : Int32))), some (.int (Int32.ofNat j + (1 : Int32))), none, none, none, none], [], (aSI σ5 58 j7 v6)) else aIx (Int32.ofNat j) 60 fun j8 => aIx (((((17 : Int32) * (a.1 56 j8)) + (12 : Int32)) + Int32.ofNat w) - (1 : Int32)) 1020 fun j9 => aIx (Int32.ofNat X.length) 20 fun j10 => Lq G (d + 3) M_258 (95, [some (.ref 33), some (.int x1), some (.int x2), some (.int (Int32.ofNat w)), some (.int x4), some (.int (Int32.ofNat X.length + (1 : Int32))), some (.int x6), some (.int x7), some (.int (Int32.ofNat c + (1 : Int32))), some (.int (Int32.ofNat j + (1 : Int32))), none, none, none, none], [], (aSI a 58 j10 (a.1 40 j9)))) = Lq G (d + 3) M_258 (95, [some (.ref 33), some (.int x1), some (.int x2), some (.int (Int32.ofNat w)), some (.int x4), some (.int (Int32.ofNat (X.length + 1))), some (.int x6), some (.int x7), some (.int (Int32.ofNat (c + 1))), some (.int (Int32.ofNat (j + 1))), none, none, none, none], [], aSI a 58 X.length (bv m.1 m.2.1 w n)) := by
            by_cases h0 : w = 0
            · have ev : bv m.1 m.2.1 w n = mSum m.1 m.2.1 n false := if_pos h0
              rw [if_pos (show Int32.ofNat w = 0 by rw [h0]; rfl), pIx (by omega) (by decide), g2, s_sum (d := d + 2) qa hk qsa g1 h60 (sd := false) (x := 0) rfl, pCI, pIx (by omega) (by decide), pN_s, pN_s, pN_s, ev]
            · have ev : bv m.1 m.2.1 w n = m.2.1.2 n (11 + w) := if_neg h0
              rw [if_neg (fun h : Int32.ofNat w = 0 => h0 ((pEqL (c := 0) (n := 0) rfl (by decide) (by omega)).mp h)), pIx (by omega) (by decide), g2, pM17, pA12, pA, pS1 (by omega), ec, pIx (by omega) (by decide), pIx (by omega) (by decide), (qsa n g1).1 (11 + w) (by omega), pN_s, pN_s, pN_s, ev]
          rcases hx with ⟨e7, e1⟩ | ⟨e7, e1⟩
          · rw [if_pos e7, if_pos e1.symm, if_neg n10]
            exact fin
          · rw [if_neg e7, if_pos e1.symm, if_neg n10]
            exact fin
        have ha' : bHm (aSI a 58 X.length (bv m.1 m.2.1 w n)) (X ++ [bv m.1 m.2.1 w n]) := by
          intro t ht
          rw [el] at ht
          by_cases e : t = X.length
          · subst e
            rw [pSI_at, gD_last]
          · rw [pSI_of e, gD_app (by omega)]
            exact ha t (by omega)
        have IH := s_gatM (x4 := x4) (x6 := x6) ho q qs g hw hx k (j + 1) (X ++ [bv m.1 m.2.1 w n]) (c + 1) (aSI a 58 X.length (bv m.1 m.2.1 w n)) (by omega) (by omega) (by rw [el]; omega) (fa.si (by decide)) ha'
        rw [← st, List.append_assoc] at IH
        rw [List.length_cons, show c + ((bVl m.1 m.2.1 w sit ((mCl m.1 m.2.1).drop (j + 1))).length + 1) = c + 1 + (bVl m.1 m.2.1 w sit ((mCl m.1 m.2.1).drop (j + 1))).length by omega]
        exact IH
    · rw [if_neg h2]
      have st : Lq G (d + 3) M_258 (95, [some (.ref 33), some (.int x1), some (.int x2), some (.int (Int32.ofNat w)), some (.int x4), some (.int (Int32.ofNat X.length)), some (.int x6), some (.int x7), some (.int (Int32.ofNat c)), some (.int (Int32.ofNat j)), none, none, none, none], [], a) = Lq G (d + 3) M_258 (95, [some (.ref 33), some (.int x1), some (.int x2), some (.int (Int32.ofNat w)), some (.int x4), some (.int (Int32.ofNat X.length)), some (.int x6), some (.int x7), some (.int (Int32.ofNat c)), some (.int (Int32.ofNat (j + 1))), none, none, none, none], [], a) := by
        rw [c_Md_beside_95, ga.1, if_neg (pGo (by omega) (by omega)), pIx (by omega) (by decide), g2, s_inOf qsa h60 g1, pCI]
        rcases hx with ⟨e7, e1⟩ | ⟨e7, e1⟩
        · rw [if_pos e7, if_neg (fun h => h2 (h.trans e1)), pN_s]
        · rw [if_neg e7, if_neg (fun h => h2 (h.trans e1)), pN_s]
      rw [st]
      exact s_gatM ho q qs g hw hx k (j + 1) X c a (by omega) hc hX fa ha
/-- ones of a number, by the reference's loop -/
theorem s_pop {N : Nat} (hN : N ≤ 20) {x4 x5 x6 x7 x8 x9 x10 : Int32} : ∀ (c x p : Nat), bP N x = c → x < 2 ^ N → p + c ≤ 1000 → Lq G d M_258 (284, [some (.ref 33), none, none, none, some (.int x4), some (.int x5), some (.int x6), some (.int x7), some (.int x8), some (.int x9), some (.int x10), some (.int (Int32.ofNat p)), some (.int (Int32.ofNat x)), none], [], σ) = Lq G d M_258 (284, [some (.ref 33), none, none, none, some (.int x4), some (.int x5), some (.int x6), some (.int x7), some (.int x8), some (.int x9), some (.int x10), some (.int (Int32.ofNat (p + c))), some (.int (Int32.ofNat 0)), none], [], σ)
  | c, x, p, hb, hx, hp => by
    have le2 : 2 ^ N ≤ 2 ^ 20 := Nat.pow_le_pow_right (by decide) hN
    have e20 : (2 : Nat) ^ 20 = 1048576 := by decide
    by_cases h0 : x = 0
    · subst h0
      have e : c = 0 := by
        rw [bP_zero] at hb
        exact hb.symm
      rw [e]
      rfl
    · have pos := bP_pos N x (by omega) hx
      have an := bP_and N x (by omega) hx
      cases c with
      | zero => omega
      | succ c =>
        have le := Nat.and_le_left (n := x) (m := x - 1)
        rw [c_Md_beside_284, if_neg (fun h : Int32.ofNat x = 0 => h0 ((pEqL (c := 0) (n := 0) rfl (by decide) (by omega)).mp h)), pN_s, pS1 (by omega), pAndN, s_pop hN c (x &&& (x - 1)) (p + 1) (by omega) (by omega) (by omega), show p + 1 + c = p + (c + 1) by omega]
termination_by c => c
theorem s_msum {N : Nat} (hN : N ≤ 20) {V : List Int32} (hV : vOk V) (lV : V.length = N) (g : bHm σ V) {y : Nat} (hy : y < 2147483648) {x4 x6 x7 x8 x9 : Int32} : ∀ (k i : Nat) (v : Int32), i + k = N → -999 * (i : Int) ≤ v.toInt → v.toInt ≤ 999 * (i : Int) → ∃ v', v'.toInt = v.toInt + bM (bFV V) k i (y / 2 ^ i) ∧ Lq G d M_258 (320, [some (.ref 33), none, none, none, some (.int x4), some (.int (Int32.ofNat N)), some (.int x6), some (.int x7), some (.int x8), some (.int x9), some (.int (Int32.ofNat y)), none, some (.int v), some (.int (Int32.ofNat i))], [], σ) = Lq G d M_258 (320, [some (.ref 33), none, none, none, some (.int x4), some (.int (Int32.ofNat N)), some (.int x6), some (.int x7), some (.int x8), some (.int x9), some (.int (Int32.ofNat y)), none, some (.int v'), some (.int (Int32.ofNat N))], [], σ)
  | 0, i, v, hi, _, _ => by
    have hi : i = N := hi
    refine ⟨v, ?_, by rw [hi]⟩
    show v.toInt = v.toInt + 0
    omega
  | k + 1, i, v, hi, h1, h2 => by
    have eb : bM (bFV V) (k + 1) i (y / 2 ^ i) = (if y / 2 ^ i % 2 = 1 then bFV V i else 0) + bM (bFV V) k (i + 1) (y / 2 ^ (i + 1)) := by
      show (if y / 2 ^ i % 2 = 1 then bFV V i else 0) + bM (bFV V) k (i + 1) (y / 2 ^ i / 2) = _
      rw [Nat.div_div_eq_div_mul, ← Nat.pow_succ]
    rw [c_Md_beside_320, if_neg (pGo (show i < N by omega) (by omega)), eb]
    obtain ⟨b1, b2⟩ := hV i (by omega)
    by_cases hb : y / 2 ^ i % 2 = 1
    · have ev : (v + V.getD i 0).toInt = v.toInt + bFV V i := pI_add (by omega) (by omega)
      have eF : bFV V i = (V.getD i 0).toInt := rfl
      obtain ⟨v', e1, e2⟩ := s_msum hN hV lV g hy k (i + 1) (v + V.getD i 0) (by omega) (by rw [ev, eF]; omega) (by rw [ev, eF]; omega)
      refine ⟨v', ?_, ?_⟩
      · rw [e1, ev, if_pos hb]
        omega
      · rw [if_pos ((pBit hy (by omega)).mpr hb), pIx (by omega) (by decide), g i (by omega), pN_s]
        exact e2
    · obtain ⟨v', e1, e2⟩ := s_msum hN hV lV g hy (x4 := x4) (x6 := x6) (x7 := x7) (x8 := x8) (x9 := x9) k (i + 1) v (by omega) (by omega) (by omega)
      refine ⟨v', ?_, ?_⟩
      · rw [e1, if_neg hb]
        omega
      · rw [if_neg (fun h => hb ((pBit hy (by omega)).mp h)), Int32.add_zero, pN_s]
        exact e2
theorem s_sets {N n : Nat} (hN : N ≤ 20) (hn : n ≤ N) {V : List Int32} (hV : vOk V) (lV : V.length = N) (g : bHm σ V) {x4 : Int32} (h0 : ¬ x4 = 0) : Lq G (d + 3) M_258 (226, [some (.ref 33), none, none, none, some (.int x4), some (.int (Int32.ofNat N)), some (.int (Int32.ofNat n)), some (.int (bIs V n)), some (.int (Int32.ofNat n)), none, none, none, none, none], [], σ) = oI (if x4 = 1 then Int32.ofNat (bW (bFV V) N 0 n (bIs V n).toInt) else Int32.ofNat (ch N n)) σ := by
  have le2 : 2 ^ N ≤ 2 ^ 20 := Nat.pow_le_pow_right (by decide) hN
  have e20 : (2 : Nat) ^ 20 = 1048576 := by decide
  rw [c_Md_beside_226, if_pos pEnd, if_neg h0]
  have e := pLoop0 (G := G) (d := d + 3) (M := M_258) (α := Unit) (fun y _ => (268, [some (.ref 33), none, none, none, some (.int x4), some (.int (Int32.ofNat N)), some (.int (Int32.ofNat n)), some (.int (bIs V n)), some (.int (Int32.ofNat (bS (fun y => if bP N y = n then 1 else 0) y))), some (.int (Int32.ofNat (bS (fun y => if bP N y = n ∧ (bIs V n).toInt ≤ bM (bFV V) N 0 y then 1 else 0) y))), some (.int (Int32.ofNat y)), none, none, none], [], σ)) (fun _ _ => ()) (2 ^ N) () (by
    intro y _ hy
    have bp : bP N y ≤ 1000 := by
      have : ∀ n y, bP n y ≤ n := by
        intro n
        induction n with
        | zero => intro y; exact Nat.le_refl 0
        | succ n ih =>
          intro y
          have := ih (y / 2)
          show y % 2 + bP n (y / 2) ≤ n + 1
          omega
      have := this N y
      omega
    rw [c_Md_beside_268, pShl hN, if_neg (pGo hy (by omega))]
    have r := s_pop (G := G) (d := d + 3) (σ := σ) hN (x4 := x4) (x5 := Int32.ofNat N) (x6 := Int32.ofNat n) (x7 := bIs V n) (x8 := Int32.ofNat (bS (fun y => if bP N y = n then 1 else 0) y)) (x9 := Int32.ofNat (bS (fun y => if bP N y = n ∧ (bIs V n).toInt ≤ bM (bFV V) N 0 y then 1 else 0) y)) (x10 := Int32.ofNat y) (bP N y) y 0 rfl hy (by omega)
    refine Eq.trans r ?_
    rw [c_Md_beside_284, if_pos (show Int32.ofNat 0 = 0 from rfl), Nat.zero_add, bS_n, bS_n]
    by_cases h1 : bP N y = n
    · obtain ⟨v', e1, e2⟩ := s_msum (G := G) (d := d + 3) hN hV lV g (y := y) (by omega) (x4 := x4) (x6 := Int32.ofNat n) (x7 := bIs V n) (x8 := Int32.ofNat (bS (fun y => if bP N y = n then 1 else 0) y)) (x9 := Int32.ofNat (bS (fun y => if bP N y = n ∧ (bIs V n).toInt ≤ bM (bFV V) N 0 y then 1 else 0) y)) N 0 0 (Nat.zero_add N) (by decide) (by decide)
      have e0 : (0 : Int32).toInt = 0 := rfl
      have ey : y / 2 ^ 0 = y := by rw [Nat.pow_zero, Nat.div_one]
      rw [e0, ey, Int.zero_add] at e1
      rw [if_pos (show Int32.ofNat (bP N y) = Int32.ofNat n by rw [h1])]
      refine Eq.trans e2 ?_
      rw [c_Md_beside_320, if_pos pEnd, if_pos h1, pN_s, pN_s]
      by_cases h2 : (bIs V n).toInt ≤ bM (bFV V) N 0 y
      · rw [if_neg (show ¬ v' < bIs V n by rw [pLt, e1]; omega), if_pos ⟨h1, h2⟩, pN_s]
      · rw [if_pos (show v' < bIs V n by rw [pLt, e1]; omega), if_neg (fun q => h2 q.2), Int32.add_zero]
        rfl
    · rw [if_neg (fun h => h1 ((pN_eq (by omega) (by omega)).mp h)), if_neg h1, if_neg (fun q => h1 q.1), pN_s]
      rfl)
  refine Eq.trans e ?_
  rw [c_Md_beside_268, pShl hN, if_pos pEnd, pOI, ← bC_W, ← bN_ch]
  rfl
theorem s_besideM {A B : List Int32} {z : Int32} (hA : A.length ≤ 10) (hB : B.length ≤ 10) (hV : vOk (A ++ B)) (g : bHm σ (A ++ B)) : Lq G (d + 3) M_258 (226, [some (.ref 33), none, none, none, some (.int z), some (.int (Int32.ofNat (A ++ B).length)), some (.int (Int32.ofNat A.length)), some (.int 0), some (.int 0), none, none, none, none, none], [], σ) = oI (bVal A B z) σ := by
  have lV : (A ++ B).length = A.length + B.length := List.length_append
  have hv : bVal A B z = if z = 0 then bIs (A ++ B) A.length else if z = 1 then Int32.ofNat (bW (bFV (A ++ B)) (A.length + B.length) 0 A.length (bIs (A ++ B) A.length).toInt) else Int32.ofNat (ch (A.length + B.length) A.length) := if_neg (by omega)
  have e := pLoop0 (G := G) (d := d + 3) (M := M_258) (fun j (x : Int32) => (226, [some (.ref 33), none, none, none, some (.int z), some (.int (Int32.ofNat (A ++ B).length)), some (.int (Int32.ofNat A.length)), some (.int x), some (.int (Int32.ofNat j)), none, none, none, none, none], [], σ)) (fun j x => x + (A ++ B).getD j 0) A.length 0 (by
    intro j x hj
    rw [c_Md_beside_226, if_neg (pGo hj (by omega)), pIx (by omega) (by decide), g j (by omega), pN_s])
  have e' : Lq G (d + 3) M_258 (226, [some (.ref 33), none, none, none, some (.int z), some (.int (Int32.ofNat (A ++ B).length)), some (.int (Int32.ofNat A.length)), some (.int 0), some (.int 0), none, none, none, none, none], [], σ) = Lq G (d + 3) M_258 (226, [some (.ref 33), none, none, none, some (.int z), some (.int (Int32.ofNat (A ++ B).length)), some (.int (Int32.ofNat A.length)), some (.int (bIs (A ++ B) A.length)), some (.int (Int32.ofNat A.length)), none, none, none, none, none], [], σ) := e
  rw [e', hv]
  by_cases z0 : z = 0
  · rw [c_Md_beside_226, if_pos pEnd, if_pos z0, if_pos z0]
  · rw [if_neg z0, lV]
    exact s_sets (by omega) (by omega) hV lV g z0
theorem a_beside (ho : okAll m) (x y w z : Int32) : Ask G 248 258 [.int x, .int y, .int w, .int z] [(0, 1)] m := by
  have hk := ho.1
  have h60 := ho.2.1.1
  have hlen := mCl_len (h := m.1) (s := m.2.1)
  obtain ⟨k0, k1, k2, _⟩ := hk.1
  rcases rngI (x := x) (n := hn m.1 1) (by omega) with ⟨s, hs, rfl⟩ | hx
  · rcases rngI (x := y) (n := hn m.1 1) (by omega) with ⟨t, ht, rfl⟩ | hy
    · rcases rngI (x := w) (n := 4) (by decide) with ⟨n, hn4, ew⟩ | hw
      · have w0 : ¬ w < 0 := by rw [ew]; exact pN_n0 (by omega)
        have w3 : ¬ 3 < w := by rw [ew]; exact pLB (c := 3) (b := 3) rfl (by omega) (by decide)
        rcases rngI (x := z) (n := 3) (by decide) with ⟨u, hu, ez⟩ | hz
        · have z0 : ¬ z < 0 := by rw [ez]; exact pN_n0 (by omega)
          have z2 : ¬ 2 < z := by rw [ez]; exact pLB (c := 2) (b := 2) rfl (by omega) (by decide)
          have okL : ∀ sit, ∀ v, v ∈ bVl m.1 m.2.1 n sit (mCl m.1 m.2.1) → pBd v (-999) 999 := fun sit => bVl_ok hk ho.2.1 hn4 (fun k hk => (mCl_mem hk).1)
          have lenL : ∀ sit, (bVl m.1 m.2.1 n sit (mCl m.1 m.2.1)).length ≤ 60 := by
            intro sit
            unfold bVl
            rw [List.length_map]
            have a := List.length_filter_le (fun k => decide (m.2.1.2 k 17 = Int32.ofNat sit)) (mCl m.1 m.2.1)
            omega
          have hV : vOk (bVl m.1 m.2.1 n s (mCl m.1 m.2.1) ++ bVl m.1 m.2.1 n t (mCl m.1 m.2.1)) := vOk_of fun v hv => (List.mem_append.mp hv).elim (okL s v) (okL t v)
          by_cases hst : s = t
          · have est : Int32.ofNat s = Int32.ofNat t := by rw [hst]
            refine Or.inl ⟨-1, fun σ I => ⟨σ, ?_, K.rfl'⟩, fun σ I => rOkI ?_⟩
            · obtain ⟨_, ⟨q, _⟩, _⟩ := I
              rw [e_Rh_beside, s_hasN (x1 := 1) (k := 1) rfl (by decide) (q.1 1 (by decide)) (by omega) (by omega), pCI, pB0, if_pos hs, s_hasN (x1 := 1) (k := 1) rfl (by decide) (q.1 1 (by decide)) (by omega) (by omega), pCI, pB0, if_pos ht, s_demand1, pXV, if_neg w0, if_neg w3, if_neg z0, if_neg z2, s_demand1, pXV, if_pos est]
            · obtain ⟨_, _, ⟨q, _⟩⟩ := I
              have e2 : σ.1 33 2 = Int32.ofNat (hn m.1 1) := q.1 1 (by decide)
              rw [e_Md_beside, if_neg (pN_n0 (by omega)), e2, if_neg (pGo hs (by omega)), if_neg (pN_n0 (by omega)), if_neg (pGo ht (by omega)), s_within, pCI, pB0, if_pos ⟨pNotLt.mp w0, pNotLt.mp w3⟩, s_within, pCI, pB0, if_pos ⟨pNotLt.mp z0, pNotLt.mp z2⟩, s_r1, pCI, if_neg (by decide), if_pos est]
          · have nst : ¬ Int32.ofNat s = Int32.ofNat t := fun h => hst ((pN_eq (by omega) (by omega)).mp h)
            refine Or.inl ⟨bVal (bVl m.1 m.2.1 n s (mCl m.1 m.2.1)) (bVl m.1 m.2.1 n t (mCl m.1 m.2.1)) z, fun σ I => ?_, fun σ I => ?_⟩
            · obtain ⟨σ1, r1, f1, v1⟩ := s_siftI (G := G) (d := 52) I
              obtain ⟨_, ⟨q, qs, _⟩, _⟩ := I
              have f2 : pSame [17, 18, 19, 20, 21, 22, 23, 25, 26] σ (aSI σ1 25 1 0) := (f1.mono (by decide)).si (by decide)
              have qs2 := qs.ps f2 (by decide) (by decide)
              have v2 : cSv (aSI σ1 25 1 0) m.1 m.2.1 := v1.ps (os := [25]) (pSame.rfl'.si (by decide)) (by decide)
              obtain ⟨σ3, r3, f3, g3⟩ := s_gatherW (G := G) (d := 55) (sit := s) ho qs2 v2 hn4 (X := []) (by decide) ⟨pSI_at, fun j _ hj => absurd hj (Nat.not_lt_zero j)⟩
              obtain ⟨σ4, r4, f4, g4⟩ := s_gatherW (G := G) (d := 55) (sit := t) ho (qs2.ps f3 (by decide) (by decide)) (v2.ps f3 (by decide)) hn4 (X := [] ++ bVl m.1 m.2.1 n s (mCl m.1 m.2.1)) (lenL s) g3
              obtain ⟨σ5, f5, r5⟩ := s_besideC (G := G) (d := 19) (z := z) (lenL s) (lenL t) g4 hV
              refine cOkS (σ' := σ5) ?_ (((f2.trans (f3.mono (by decide))).trans (f4.mono (by decide))).trans (f5.mono (by decide))) (by decide)
              rw [e_Rh_beside, s_hasN (x1 := 1) (k := 1) rfl (by decide) (q.1 1 (by decide)) (by omega) (by omega), pCI, pB0, if_pos hs, s_hasN (x1 := 1) (k := 1) rfl (by decide) (q.1 1 (by decide)) (by omega) (by omega), pCI, pB0, if_pos ht, s_demand1, pXV, if_neg w0, if_neg w3, if_neg z0, if_neg z2, s_demand1, pXV, if_neg nst, r1, pCV, e_Rh_Ways_clear, pCV, ew, r3, pCI, r4, pCI]
              exact r5
            · obtain ⟨σ1, r1, f1, g1, v1⟩ := s_gatherI (G := G) (d := 54) I
              have q1 := I.2.2.1.rs f1
              have qs1 := I.2.2.2.1.1.rs f1
              obtain ⟨_, _, ⟨q, _⟩⟩ := I
              have e2 : σ.1 33 2 = Int32.ofNat (hn m.1 1) := q.1 1 (by decide)
              have hd : Rn G 60 258 [.ref 33, .int (Int32.ofNat s), .int (Int32.ofNat t), .int w, .int z] σ = Lq G 59 M_258 (95, [some (.ref 33), some (.int (Int32.ofNat s)), some (.int (Int32.ofNat t)), some (.int (Int32.ofNat n)), some (.int z), some (.int (Int32.ofNat 0)), some (.int 0), some (.int 0), some (.int (Int32.ofNat 0)), some (.int (Int32.ofNat 0)), none, none, none, none], [], σ1) := by
                rw [e_Md_beside, if_neg (pN_n0 (by omega)), e2, if_neg (pGo hs (by omega)), if_neg (pN_n0 (by omega)), if_neg (pGo ht (by omega)), s_within, pCI, pB0, if_pos ⟨pNotLt.mp w0, pNotLt.mp w3⟩, s_within, pCI, pB0, if_pos ⟨pNotLt.mp z0, pNotLt.mp z2⟩, s_r1, pCI, if_neg (by decide), if_neg nst, r1, pCV, c_Md_beside_83, if_neg (show ¬ (2 : Int32) ≤ 0 by decide), ew]
                rfl
              have ea := s_gatM (G := G) (d := 56) (σ := σ1) ho q1 qs1 v1 hn4 (sit := s) (x1 := Int32.ofNat s) (x2 := Int32.ofNat t) (x4 := z) (x6 := 0) (x7 := 0) (Or.inl ⟨rfl, rfl⟩) (mCl m.1 m.2.1).length 0 [] 0 σ1 (Nat.zero_add _) (by decide) (by decide) pSame.rfl' (fun j hj => absurd hj (Nat.not_lt_zero j))
              rw [List.drop_zero, List.nil_append, Nat.zero_add] at ea
              rcases ea with ⟨la, b, fb, gb, eb⟩ | ⟨la, b, fb, eb⟩
              · have c83 : Lq G 59 M_258 (95, [some (.ref 33), some (.int (Int32.ofNat s)), some (.int (Int32.ofNat t)), some (.int (Int32.ofNat n)), some (.int z), some (.int (Int32.ofNat (bVl m.1 m.2.1 n s (mCl m.1 m.2.1)).length)), some (.int 0), some (.int 0), some (.int (Int32.ofNat (bVl m.1 m.2.1 n s (mCl m.1 m.2.1)).length)), some (.int (Int32.ofNat (mCl m.1 m.2.1).length)), none, none, none, none], [], b) = Lq G 59 M_258 (95, [some (.ref 33), some (.int (Int32.ofNat s)), some (.int (Int32.ofNat t)), some (.int (Int32.ofNat n)), some (.int z), some (.int (Int32.ofNat (bVl m.1 m.2.1 n s (mCl m.1 m.2.1)).length)), some (.int (Int32.ofNat (bVl m.1 m.2.1 n s (mCl m.1 m.2.1)).length)), some (.int 1), some (.int (Int32.ofNat 0)), some (.int (Int32.ofNat 0)), none, none, none, none], [], b) := by
                  rw [c_Md_beside_95, (v1.ps fb (by decide) (by decide)).1, if_pos pEnd, if_pos rfl, c_Md_beside_83, if_neg (show ¬ (2 : Int32) ≤ 0 + 1 by decide)]
                  rfl
                have ec := s_gatM (G := G) (d := 56) (σ := σ1) ho q1 qs1 v1 hn4 (sit := t) (x1 := Int32.ofNat s) (x2 := Int32.ofNat t) (x4 := z) (x6 := Int32.ofNat (bVl m.1 m.2.1 n s (mCl m.1 m.2.1)).length) (x7 := 1) (Or.inr ⟨by decide, rfl⟩) (mCl m.1 m.2.1).length 0 (bVl m.1 m.2.1 n s (mCl m.1 m.2.1)) 0 b (Nat.zero_add _) (by decide) (by omega) fb gb
                rw [List.drop_zero, Nat.zero_add] at ec
                rcases ec with ⟨lc, c, fc, gc, ec⟩ | ⟨lc, c, fc, ec⟩
                · refine rOkS (σ' := c) ?_ (f1.trans (rS.of fc (by decide))) ((congrFun (fc.at (by decide)) 0).trans g1)
                  refine Eq.trans hd (Eq.trans eb (Eq.trans c83 (Eq.trans ec ?_)))
                  rw [c_Md_beside_95, (v1.ps fc (by decide) (by decide)).1, if_pos pEnd, if_neg (show ¬ (1 : Int32) = 0 by decide), c_Md_beside_83, if_pos (show (2 : Int32) ≤ 1 + 1 by decide)]
                  exact s_besideM (d := 56) la lc hV gc
                · refine rOkS (σ' := c) ?_ (f1.trans (rS.of fc (by decide))) ((congrFun (fc.at (by decide)) 0).trans g1)
                  refine Eq.trans hd (Eq.trans eb (Eq.trans c83 (Eq.trans ec ?_)))
                  unfold bVal
                  rw [if_pos (Or.inr lc)]
              · refine rOkS (σ' := b) ?_ (f1.trans (rS.of fb (by decide))) ((congrFun (fb.at (by decide)) 0).trans g1)
                refine Eq.trans hd (Eq.trans eb ?_)
                unfold bVal
                rw [if_pos (Or.inl la)]
        · refine Or.inr ⟨(0, 1), by decide, fun σ I => cExI ?_, fun σ I => rExI (v := 0) ?_⟩
          · obtain ⟨_, ⟨q, _⟩, _⟩ := I
            rw [e_Rh_beside, s_hasN (x1 := 1) (k := 1) rfl (by decide) (q.1 1 (by decide)) (by omega) (by omega), pCI, pB0, if_pos hs, s_hasN (x1 := 1) (k := 1) rfl (by decide) (q.1 1 (by decide)) (by omega) (by omega), pCI, pB0, if_pos ht, s_demand1, pXV, if_neg w0, if_neg w3, s_demand0, pXVt]
            by_cases h0 : z < 0
            · rw [if_pos h0]
            · rw [if_neg h0, if_pos (pBad (c := 2) (b := 2) rfl (by decide) (hz.resolve_left h0))]
          · obtain ⟨_, _, ⟨q, _⟩⟩ := I
            have e2 : σ.1 33 2 = Int32.ofNat (hn m.1 1) := q.1 1 (by decide)
            rw [e_Md_beside, if_neg (pN_n0 (by omega)), e2, if_neg (pGo hs (by omega)), if_neg (pN_n0 (by omega)), if_neg (pGo ht (by omega)), s_within, pCI, pB0, if_pos ⟨pNotLt.mp w0, pNotLt.mp w3⟩, s_within, pCI, pB0, if_neg (pOut (c := 2) (b := 2) rfl (by decide) hz), s_r0 (by decide), pCI, if_pos rfl]
      · refine Or.inr ⟨(0, 1), by decide, fun σ I => cExI ?_, fun σ I => rExI (v := 0) ?_⟩
        · obtain ⟨_, ⟨q, _⟩, _⟩ := I
          rw [e_Rh_beside, s_hasN (x1 := 1) (k := 1) rfl (by decide) (q.1 1 (by decide)) (by omega) (by omega), pCI, pB0, if_pos hs, s_hasN (x1 := 1) (k := 1) rfl (by decide) (q.1 1 (by decide)) (by omega) (by omega), pCI, pB0, if_pos ht, s_demand1, pXV, s_demand0, pXVt]
          by_cases h0 : w < 0
          · rw [if_pos h0]
          · rw [if_neg h0, if_pos (pBad (c := 3) (b := 3) rfl (by decide) (hw.resolve_left h0))]
        · obtain ⟨_, _, ⟨q, _⟩⟩ := I
          have e2 : σ.1 33 2 = Int32.ofNat (hn m.1 1) := q.1 1 (by decide)
          rw [e_Md_beside, if_neg (pN_n0 (by omega)), e2, if_neg (pGo hs (by omega)), if_neg (pN_n0 (by omega)), if_neg (pGo ht (by omega)), s_within, pCI, pB0, if_neg (pOut (c := 3) (b := 3) rfl (by decide) hw), s_r0 (by decide), pCI, if_pos rfl]
    · refine Or.inr ⟨(0, 1), by decide, fun σ I => cExI ?_, fun σ I => rExI (v := 0) ?_⟩
      · obtain ⟨_, ⟨q, _⟩, _⟩ := I
        rw [e_Rh_beside, s_hasN (x1 := 1) (k := 1) rfl (by decide) (q.1 1 (by decide)) (by omega) (by omega), pCI, pB0, if_pos hs, s_hasO (x1 := 1) (k := 1) rfl (by decide) (q.1 1 (by decide)) hy, pCI, if_pos rfl, s_demand0, pXVt]
      · obtain ⟨_, _, ⟨q, _⟩⟩ := I
        have e2 : σ.1 33 2 = Int32.ofNat (hn m.1 1) := q.1 1 (by decide)
        rw [e_Md_beside, if_neg (pN_n0 (by omega)), e2, if_neg (pGo hs (by omega)), s_r0 (by decide), pCI, if_pos rfl]
        by_cases h0 : y < 0
        · rw [if_pos h0]
        · rw [if_neg h0, if_pos (hy.resolve_left h0)]
  · refine Or.inr ⟨(0, 1), by decide, fun σ I => cExI ?_, fun σ I => rExI (v := 0) ?_⟩
    · obtain ⟨_, ⟨q, _⟩, _⟩ := I
      rw [e_Rh_beside, s_hasO (x1 := 1) (k := 1) rfl (by decide) (q.1 1 (by decide)) hx, pCI, if_pos rfl, s_demand0, pXVt]
    · obtain ⟨_, _, ⟨q, _⟩⟩ := I
      have e2 : σ.1 33 2 = Int32.ofNat (hn m.1 1) := q.1 1 (by decide)
      rw [e_Md_beside, e2, s_r0 (by decide), pCI, if_pos rfl]
      by_cases h0 : x < 0
      · rw [if_pos h0]
      · rw [if_neg h0, if_pos (hx.resolve_left h0)]
end PBeside
