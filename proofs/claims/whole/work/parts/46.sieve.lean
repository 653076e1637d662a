/-! ===== which sheets are off ===== -/
def mWorth (h : Ho) (s : Sh) (k r : Nat) : Int32 := pEv (mVal h s k) (hR h r) []
/-- the first that isn't 0, from one on, of so many; or -1 -/
def pFirst (f : Nat → Int32) : Nat → Nat → Int32
  | 0, _ => -1
  | n + 1, i => if f i = 0 then pFirst f n (i + 1) else Int32.ofNat i
theorem pFirst_succ (f : Nat → Int32) (n i : Nat) : pFirst f (n + 1) i = if f i = 0 then pFirst f n (i + 1) else Int32.ofNat i := rfl
def mRule (h : Ho) (s : Sh) (k : Nat) : Int32 := pFirst (mWorth h s k) (hn h 4) 0
def mOff (h : Ho) (s : Sh) (k : Nat) : Int32 := if mRule h s k = -1 then (if 0 < mYes h s (s.2 k 16).toNatClampNeg then -2 else -1) else mRule h s k
def mCl (h : Ho) (s : Sh) : List Nat := (List.range s.1).filter fun k => decide (mOff h s k = -1)
theorem pFirst_ne {f : Nat → Int32} : ∀ (n i : Nat), i + n < 2147483648 → pFirst f n i = -1 ∨ ∃ j, j < i + n ∧ pFirst f n i = Int32.ofNat j
  | 0, _, _ => Or.inl rfl
  | n + 1, i, h => by
    rw [pFirst_succ]
    by_cases h1 : f i = 0
    · rw [if_pos h1]
      rcases pFirst_ne n (i + 1) (by omega) with h2 | ⟨j, hj, h2⟩
      · exact Or.inl h2
      · exact Or.inr ⟨j, by omega, h2⟩
    · rw [if_neg h1]
      exact Or.inr ⟨i, by omega, rfl⟩
section PSieve
variable {G : Nat × (Nat → Int32)} {d : Nat} {σ : aH} {h : Ho} {s : Sh}
/-- what the class's sieve holds behind sift -/
def cSv (σ : aH) (h : Ho) (s : Sh) : Prop := (∀ k, k < s.1 → σ.1 18 k = mOff h s k ∧ σ.1 19 k = mSum h s k false ∧ σ.1 20 k = mSum h s k true) ∧ (∀ p, p < 20 → σ.1 21 p = mYes h s p) ∧ σ.1 17 6 = Int32.ofNat (mCl h s).length
theorem cSv.same {σ σ' : aH} (q : cSv σ h s) (h17 : σ'.1 17 = σ.1 17) (h18 : σ'.1 18 = σ.1 18) (h19 : σ'.1 19 = σ.1 19) (h20 : σ'.1 20 = σ.1 20) (h21 : σ'.1 21 = σ.1 21) : cSv σ' h s := by
  unfold cSv
  rw [h17, h18, h19, h20, h21]
  exact q
theorem s_getN (qs : cSh σ 13 s) (h60 : s.1 ≤ 60) {k c : Nat} (hk : k < s.1) (hc : c < 18) {x : Int32} (hx : x = Int32.ofNat c) : Rn G (d + 2) 117 [.ref 13, .int (Int32.ofNat k), .int x] σ = oI (s.2 k c) σ := by
  rw [s_get (k := k) (c := c) rfl hx (by omega), qs.2 k hk c hc]
/-- the answers of one sheet, added up -/
theorem s_addOne (q : cHo σ h) (hk : Hok h) (qs : cSh σ 13 s) (h60 : s.1 ≤ 60) {k : Nat} (hk2 : k < s.1) : Lq G (d + 3) M_116 (53, [some (.ref 17), some (.ref 3), some (.ref 13), some (.int (Int32.ofNat (hn h 3))), some (.int (Int32.ofNat k)), some (.int 0), some (.int 0), some (.int 0), none], [], σ) = Lq G (d + 3) M_116 (53, [some (.ref 17), some (.ref 3), some (.ref 13), some (.int (Int32.ofNat (hn h 3))), some (.int (Int32.ofNat k)), some (.int (mSum h s k false)), some (.int (mSum h s k true)), some (.int (Int32.ofNat (hn h 3))), none], [], σ) := by
  have h3 := hk.1.2.2.2.1
  have e := pLoop0 (G := G) (d := d + 3) (M := M_116) (fun i (a : Int32 × Int32) => (53, [some (.ref 17), some (.ref 3), some (.ref 13), some (.int (Int32.ofNat (hn h 3))), some (.int (Int32.ofNat k)), some (.int a.1), some (.int a.2), some (.int (Int32.ofNat i)), none], [], σ)) (fun j a => (if hN h j = false then a.1 + s.2 k j else a.1, if hN h j = true then a.2 + s.2 k j else a.2)) (hn h 3) (0, 0) (by
    intro i a hi
    show Lq G (d + 3) M_116 (53, [some (.ref 17), some (.ref 3), some (.ref 13), some (.int (Int32.ofNat (hn h 3))), some (.int (Int32.ofNat k)), some (.int a.1), some (.int a.2), some (.int (Int32.ofNat i)), none], [], σ) = Lq G (d + 3) M_116 (53, [some (.ref 17), some (.ref 3), some (.ref 13), some (.int (Int32.ofNat (hn h 3))), some (.int (Int32.ofNat k)), some (.int (if hN h i = false then a.1 + s.2 k i else a.1)), some (.int (if hN h i = true then a.2 + s.2 k i else a.2)), some (.int (Int32.ofNat (i + 1))), none], [], σ)
    rw [c_Rh_Sieve_addAnswers_53, if_neg (pGo hi (by omega)), s_getN qs h60 hk2 (show i < 18 by omega) rfl, pCI, s_lineIsSaid q hk (show i < 12 by omega), pCI, pB0, pN_s]
    cases e : hN h i
    · rw [if_neg (fun h2 => absurd h2.2 (by decide)), if_pos rfl, if_neg (by decide)]
    · rw [if_pos ⟨hi, rfl⟩, if_neg (by decide), if_pos rfl])
  have e2 : pFo (fun j (a : Int32 × Int32) => (if hN h j = false then a.1 + s.2 k j else a.1, if hN h j = true then a.2 + s.2 k j else a.2)) (hn h 3) 0 (0, 0) = (mSum h s k false, mSum h s k true) := by
    unfold mSum
    generalize (0 : Int32) = z
    have g : ∀ (n i : Nat) (a b : Int32), pFo (fun j (a : Int32 × Int32) => (if hN h j = false then a.1 + s.2 k j else a.1, if hN h j = true then a.2 + s.2 k j else a.2)) n i (a, b) = (pFo (fun j a => if hN h j = false then a + s.2 k j else a) n i a, pFo (fun j a => if hN h j = true then a + s.2 k j else a) n i b) := by
      intro n
      induction n with
      | zero => intro i a b; rfl
      | succ n ih => intro i a b; exact ih (i + 1) _ _
    exact g _ _ _ _
  rw [e2] at e
  exact e
/-- all answers: felt, said, and by person -/
theorem s_addAnswers (q : cHo σ h) (hk : Hok h) (qs : cSh σ 13 s) (hs : Sok h s) : ∃ σ', Rn G (d + 4) 116 [.ref 17, .ref 3, .ref 13] σ = oV σ' ∧ pSame [19, 20, 21] σ σ' ∧ (∀ k, k < s.1 → σ'.1 19 k = mSum h s k false ∧ σ'.1 20 k = mSum h s k true) ∧ ∀ p, p < 20 → σ'.1 21 p = mYes h s p := by
  have h60 := hs.1
  have h3 := hk.1.2.2.2.1
  rw [e_Rh_Sieve_addAnswers]
  obtain ⟨b, ⟨hb1, hb2⟩, e⟩ := pLoopR0 (G := G) (d := d + 3) (M := M_116) (fun i a => (2, [some (.ref 17), some (.ref 3), some (.ref 13), some (.int (Int32.ofNat i)), none, none, none, none, none], [], a)) (fun i a => pSame [19, 20, 21] σ a ∧ ∀ k, k < i → a.1 21 k = 0) 20 σ ⟨pSame.rfl', fun k hk => absurd hk (Nat.not_lt_zero k)⟩ (by
    intro i a hi ha
    refine ⟨aSI a 21 i 0, ⟨ha.1.si (by decide), ?_⟩, ?_⟩
    · intro k hk
      by_cases h : k = i
      · subst h
        exact pSI_at
      · rw [pSI_of h]
        exact ha.2 k (by omega)
    · rw [c_Rh_Sieve_addAnswers_2, if_neg (pGoL (c := 20) (n := 20) rfl hi (by decide)), s_put (r := 21) (n := 20) (i := i) rfl rfl hi (by decide), pCV, pN_s])
  have e' : Lq G (d + 3) M_116 (2, [some (.ref 17), some (.ref 3), some (.ref 13), some (.int 0), none, none, none, none, none], [], σ) = Lq G (d + 3) M_116 (2, [some (.ref 17), some (.ref 3), some (.ref 13), some (.int (Int32.ofNat 20)), none, none, none, none, none], [], b) := e
  have qb : cHo b h := q.same (hb1 4 (by decide)).1 (hb1 5 (by decide)).1 (hb1 6 (by decide)).1
  rw [e', c_Rh_Sieve_addAnswers_2, if_pos (pEndL (c := 20) (n := 20) rfl), s_howMany (x := 3) (k := 3) rfl (by decide), pCI, qb.1 3 (by decide)]
  obtain ⟨c, ⟨hc1, hc2, hc3⟩, f⟩ := pLoopR0 (G := G) (d := d + 3) (M := M_116) (fun i a => (35, [some (.ref 17), some (.ref 3), some (.ref 13), some (.int (Int32.ofNat (hn h 3))), some (.int (Int32.ofNat i)), none, none, none, none], [], a)) (fun i a => pSame [19, 20, 21] σ a ∧ (∀ k, k < i → a.1 19 k = mSum h s k false ∧ a.1 20 k = mSum h s k true) ∧ ∀ p, p < 20 → a.1 21 p = pFo (fun k a => if s.2 k 16 = Int32.ofNat p then a + mSum h s k true else a) i 0 0) s.1 b ⟨hb1, fun k hk => absurd hk (Nat.not_lt_zero k), fun p hp => hb2 p hp⟩ (by
    intro i a hi ⟨ha1, ha2, ha3⟩
    have qa : cHo a h := q.same (ha1 4 (by decide)).1 (ha1 5 (by decide)).1 (ha1 6 (by decide)).1
    have qsa : cSh a 13 s := qs.same (ha1 13 (by decide)).1 (ha1 14 (by decide)).1
    obtain ⟨p, hp, hp20, ep⟩ := (hs.2 i hi).who hk
    refine ⟨aSI (aSI (aSI a 19 i (mSum h s i false)) 20 i (mSum h s i true)) 21 p (a.1 21 p + mSum h s i true), ⟨((ha1.si (by decide)).si (by decide)).si (by decide), ?_, ?_⟩, ?_⟩
    · intro k hk
      rw [pSI_ne (by decide : 19 ≠ 21), pSI_ne (by decide : 19 ≠ 20), pSI_ne (by decide : 20 ≠ 21)]
      by_cases h : k = i
      · subst h
        rw [pSI_at, pSI_at]
        exact ⟨rfl, rfl⟩
      · rw [pSI_of h, pSI_of h, pSI_ne (by decide : 20 ≠ 19)]
        exact ha2 k (by omega)
    · intro p' hp'
      rw [pFo_snoc, Nat.zero_add, ep]
      by_cases h : p' = p
      · subst h
        rw [pSI_at, if_pos rfl, ha3 p' hp']
      · rw [pSI_of h, if_neg (fun h2 => h ((pN_eq (by omega) (by omega)).mp h2).symm), pSI_ne (by decide), pSI_ne (by decide), ha3 p' hp']
    · have e13 : a.1 13 1 = Int32.ofNat s.1 := qsa.1
      have g1 : cSh (aSI (aSI a 19 i (mSum h s i false)) 20 i (mSum h s i true)) 13 s := qsa.same (by rw [pSI_ne (by decide), pSI_ne (by decide)]) (by rw [pSI_ne (by decide), pSI_ne (by decide)])
      rw [c_Rh_Sieve_addAnswers_35, e13, if_neg (pGo hi (by omega)), s_addOne qa hk qsa h60 hi, c_Rh_Sieve_addAnswers_53, if_pos pEnd, s_put (r := 19) (n := 60) (i := i) rfl rfl (by omega) (by decide), pCV, s_put (r := 20) (n := 60) (i := i) rfl rfl (by omega) (by decide), pCV, s_getN (x := 16) (c := 16) g1 h60 hi (by decide) rfl, pCI, ep, s_cell (r := 21) (n := 20) (i := p) rfl rfl hp20 (by decide), pCI, s_put (r := 21) (n := 20) (i := p) rfl rfl hp20 (by decide), pCV, pN_s, pSI_ne (by decide), pSI_ne (by decide)])
  have f' : Lq G (d + 3) M_116 (35, [some (.ref 17), some (.ref 3), some (.ref 13), some (.int (Int32.ofNat (hn h 3))), some (.int 0), none, none, none, none], [], b) = Lq G (d + 3) M_116 (35, [some (.ref 17), some (.ref 3), some (.ref 13), some (.int (Int32.ofNat (hn h 3))), some (.int (Int32.ofNat s.1)), none, none, none, none], [], c) := f
  have e13 : c.1 13 1 = Int32.ofNat s.1 := (congrFun (hc1 13 (by decide)).1 1).trans qs.1
  refine ⟨c, ?_, hc1, hc2, hc3⟩
  rw [f', c_Rh_Sieve_addAnswers_35, e13, if_pos pEnd]
theorem pSame.at {os : List Nat} {σ σ' : aH} (f : pSame os σ σ') {o : Nat} (ho : o ∉ os) : σ'.1 o = σ.1 o := (f o ho).1
theorem cHo.ps {os : List Nat} {σ σ' : aH} (q : cHo σ h) (f : pSame os σ σ') (h4 : 4 ∉ os) (h5 : 5 ∉ os) (h6 : 6 ∉ os) : cHo σ' h := q.same (f.at h4) (f.at h5) (f.at h6)
theorem cSh.ps {os : List Nat} {σ σ' : aH} {o : Nat} (q : cSh σ o s) (f : pSame os σ σ') (h1 : o ∉ os) (h2 : o + 1 ∉ os) : cSh σ' o s := q.same (f.at h1) (f.at h2)
/-- the values of a sheet -/
theorem s_tellValues (q : cHo σ h) (hk : Hok h) (qs : cSh σ 13 s) (hs : Sok h s) {k : Nat} (hk2 : k < s.1) (v0 : σ.1 19 k = mSum h s k false) (v1 : σ.1 20 k = mSum h s k true) : ∃ σ', Rn G (d + 4) 120 [.ref 17, .ref 3, .ref 13, .int (Int32.ofNat k)] σ = oV σ' ∧ pSame [22] σ σ' ∧ ∀ w, w < 12 → σ'.1 22 w = mVal h s k w := by
  have h60 := hs.1
  obtain ⟨p, hp, hp20, ep⟩ := (hs.2 k hk2).at hk
  have n0 : Rn G (d + 3) 121 [.ref 17, .int (Int32.ofNat k)] σ = oI (mSum h s k false) σ := by
    rw [e_Rh_Sieve_feltOf, s_cell (r := 19) (n := 60) (i := k) rfl rfl (by omega) (by decide), pCI, v0]
  rw [e_Rh_Sieve_tellValues, n0, pCI, s_put (x := 0) (r := 22) (n := 12) (i := 0) rfl rfl (by decide) (by decide), pCV]
  have n1 : Rn G (d + 3) 122 [.ref 17, .int (Int32.ofNat k)] (aSI σ 22 0 (mSum h s k false)) = oI (mSum h s k true) (aSI σ 22 0 (mSum h s k false)) := by
    rw [e_Rh_Sieve_saidOf, s_cell (r := 20) (n := 60) (i := k) rfl rfl (by omega) (by decide), pCI, pSI_ne (by decide), v1]
  rw [n1, pCI, s_put (x := 1) (r := 22) (n := 12) (i := 1) rfl rfl (by decide) (by decide), pCV]
  have m0 : mVal h s k 0 = mSum h s k false := rfl
  have m1 : mVal h s k 1 = mSum h s k true := rfl
  obtain ⟨b, ⟨hb1, hb2⟩, e⟩ := pLoopR0 (G := G) (d := d + 3) (M := M_120) (fun i a => (29, [some (.ref 17), some (.ref 3), some (.ref 13), some (.int (Int32.ofNat k)), some (.int (Int32.ofNat i))], [], a)) (fun i a => pSame [22] σ a ∧ ∀ w, w < 2 + i → a.1 22 w = mVal h s k w) 3 (aSI (aSI σ 22 0 (mSum h s k false)) 22 1 (mSum h s k true)) ⟨(pSame.rfl'.si (by decide)).si (by decide), by
    intro w hw
    rcases (show w = 0 ∨ w = 1 by omega) with rfl | rfl
    · rw [pSI_of (by decide), pSI_at, m0]
    · rw [pSI_at, m1]⟩ (by
    intro i a hi ⟨ha1, ha2⟩
    refine ⟨aSI a 22 (2 + i) (s.2 k (12 + i)), ⟨ha1.si (by decide), ?_⟩, ?_⟩
    · intro w hw
      by_cases h : w = 2 + i
      · rw [h, pSI_at]
        unfold mVal
        rw [if_neg (by omega), if_neg (by omega), if_neg (by omega), if_pos (by omega), show 2 + i + 10 = 12 + i by omega]
      · rw [pSI_of h]
        exact ha2 w (by omega)
    · rw [c_Rh_Sieve_tellValues_29, if_neg (pGoL (c := 3) (n := 3) rfl hi (by decide)), s_getN (x := 12 + Int32.ofNat i) (c := 12 + i) (qs.ps ha1 (by decide) (by decide)) h60 hk2 (by omega) (pA 12 i), pCI, s_put (x := 2 + Int32.ofNat i) (r := 22) (n := 12) (i := 2 + i) rfl (pA 2 i) (by omega) (by decide), pCV, pN_s])
  have e' : Lq G (d + 3) M_120 (29, [some (.ref 17), some (.ref 3), some (.ref 13), some (.int (Int32.ofNat k)), some (.int 0)], [], aSI (aSI σ 22 0 (mSum h s k false)) 22 1 (mSum h s k true)) = Lq G (d + 3) M_120 (29, [some (.ref 17), some (.ref 3), some (.ref 13), some (.int (Int32.ofNat k)), some (.int (Int32.ofNat 3))], [], b) := e
  rw [e', c_Rh_Sieve_tellValues_29, if_pos (pEndL (c := 3) (n := 3) rfl)]
  obtain ⟨c, ⟨hc1, hc2⟩, f⟩ := pLoopR0 (G := G) (d := d + 3) (M := M_120) (fun i a => (65, [some (.ref 17), some (.ref 3), some (.ref 13), some (.int (Int32.ofNat k)), some (.int (Int32.ofNat i))], [], a)) (fun i a => pSame [22] σ a ∧ ∀ w, w < 5 + i → a.1 22 w = mVal h s k w) 6 b ⟨hb1, hb2⟩ (by
    intro i a hi ⟨ha1, ha2⟩
    refine ⟨aSI a 22 (5 + i) (hS h (6 * p + i)), ⟨ha1.si (by decide), ?_⟩, ?_⟩
    · intro w hw
      by_cases h : w = 5 + i
      · rw [h, pSI_at]
        unfold mVal
        rw [if_neg (by omega), if_neg (by omega), if_neg (by omega), if_neg (by omega), ep, pN_cl (by omega), show 5 + i - 5 = i by omega]
      · rw [pSI_of h]
        exact ha2 w (by omega)
    · have qa := q.ps ha1 (by decide) (by decide) (by decide)
      rw [c_Rh_Sieve_tellValues_65, if_neg (pGoL (c := 6) (n := 6) rfl hi (by decide)), s_getN (x := 17) (c := 17) (qs.ps ha1 (by decide) (by decide)) h60 hk2 (by decide) rfl, pCI, ep, s_toldS (i := p) (w := i) rfl rfl hp20 hi, pCI, qa.2.2.1 p hp i hi, s_put (x := 5 + Int32.ofNat i) (r := 22) (n := 12) (i := 5 + i) rfl (pA 5 i) (by omega) (by decide), pCV, pN_s])
  have f' : Lq G (d + 3) M_120 (65, [some (.ref 17), some (.ref 3), some (.ref 13), some (.int (Int32.ofNat k)), some (.int 0)], [], b) = Lq G (d + 3) M_120 (65, [some (.ref 17), some (.ref 3), some (.ref 13), some (.int (Int32.ofNat k)), some (.int (Int32.ofNat 6))], [], c) := f
  refine ⟨aSI c 22 11 (s.2 k 16), ?_, hc1.si (by decide), ?_⟩
  · rw [f', c_Rh_Sieve_tellValues_65, if_pos (pEndL (c := 6) (n := 6) rfl), s_getN (x := 16) (c := 16) (qs.ps hc1 (by decide) (by decide)) h60 hk2 (by decide) rfl, pCI, s_put (x := 11) (r := 22) (n := 12) (i := 11) rfl rfl (by decide) (by decide), pCV]
  · intro w hw
    by_cases h : w = 11
    · rw [h, pSI_at]
      rfl
    · rw [pSI_of h]
      exact hc2 w (by omega)
/-- the first rule that holds -/
theorem s_firstRule {v : Nat → Int32} (hk : Hok h) : ∀ (n i : Nat) (σ : aH), i + n = hn h 4 → cHo σ h → (∀ w, w < 12 → σ.1 22 w = v w) → ∃ σ', Lq G (d + 4) M_123 (8, [some (.ref 17), some (.ref 3), some (.int (Int32.ofNat (hn h 4))), some (.int (Int32.ofNat i))], [], σ) = oI (pFirst (fun r => pEv v (hR h r) []) n i) σ' ∧ pSame [23] σ σ'
  | 0, i, σ, hi, _, _ => by
    have hi : i = hn h 4 := hi
    subst hi
    exact ⟨σ, by rw [c_Rh_Sieve_firstRuleThatHolds_8, if_pos pEnd]; rfl, pSame.rfl'⟩
  | n + 1, i, σ, hi, q, hv => by
    have h4 := hk.1.2.2.2.2
    obtain ⟨σ1, r1, f1⟩ := s_worthC (G := G) (d := d) (v := v) q hk (show i < hn h 4 by omega) hv
    rw [c_Rh_Sieve_firstRuleThatHolds_8, if_neg (pGo (by omega) (by omega)), r1, pCI, pFirst_succ]
    by_cases h0 : pEv v (hR h i) [] = 0
    · rw [if_pos h0, if_pos h0, pN_s]
      obtain ⟨σ2, r2, f2⟩ := s_firstRule (v := v) hk n (i + 1) σ1 (by omega) (q.ps f1 (by decide) (by decide) (by decide)) (fun w hw => by rw [f1.at (by decide)]; exact hv w hw)
      exact ⟨σ2, r2, f1.trans f2⟩
    · rw [if_neg h0, if_neg h0]
      exact ⟨σ1, rfl, f1⟩
theorem s_firstRuleC {v : Nat → Int32} (q : cHo σ h) (hk : Hok h) (hv : ∀ w, w < 12 → σ.1 22 w = v w) : ∃ σ', Rn G (d + 5) 123 [.ref 17, .ref 3] σ = oI (pFirst (fun r => pEv v (hR h r) []) (hn h 4) 0) σ' ∧ pSame [23] σ σ' := by
  rw [e_Rh_Sieve_firstRuleThatHolds, s_howMany (x := 4) (k := 4) rfl (by decide), pCI, q.1 4 (by decide)]
  exact s_firstRule hk (hn h 4) 0 σ (Nat.zero_add _) q hv
theorem mCl_succ (h : Ho) (T : Nat → Nat → Int32) (s : Sh) : ∀ n, ((List.range (n + 1)).filter fun k => decide (mOff h s k = -1)).length = ((List.range n).filter fun k => decide (mOff h s k = -1)).length + (if mOff h s n = -1 then 1 else 0) := by
  intro n
  rw [List.range_succ, List.filter_append, List.length_append]
  by_cases h1 : mOff h s n = -1
  · simp [h1]
  · simp [h1]
theorem s_sift (q : cHo σ h) (hk : Hok h) (qs : cSh σ 13 s) (hs : Sok h s) : ∃ σ', Rn G (d + 7) 115 [.ref 17, .ref 3, .ref 13] σ = oV σ' ∧ pSame [17, 18, 19, 20, 21, 22, 23] σ σ' ∧ cSv σ' h s := by
  have h60 := hs.1
  obtain ⟨σ1, r1, f1, g1, g2⟩ := s_addAnswers (G := G) (d := d + 2) q hk qs hs
  rw [e_Rh_Sieve_sift, r1, pCV]
  obtain ⟨b, ⟨hb1, hb2, hb3, hb4, hb5⟩, e⟩ := pLoopR0 (G := G) (d := d + 6) (M := M_115) (fun i a => (13, [some (.ref 17), some (.ref 3), some (.ref 13), some (.int (Int32.ofNat i)), none], [], a)) (fun i a => pSame [17, 18, 19, 20, 21, 22, 23] σ a ∧ (∀ k, k < s.1 → a.1 19 k = mSum h s k false ∧ a.1 20 k = mSum h s k true) ∧ (∀ p, p < 20 → a.1 21 p = mYes h s p) ∧ (∀ k, k < i → a.1 18 k = mOff h s k) ∧ a.1 17 6 = Int32.ofNat ((List.range i).filter fun k => decide (mOff h s k = -1)).length) s.1 (aSI σ1 17 6 0) ⟨(f1.mono (by intro o ho; simp at ho ⊢; omega)).si (by decide), by
      rw [pSI_ne (by decide), pSI_ne (by decide)]
      exact g1, by
      rw [pSI_ne (by decide)]
      exact g2, fun k hk => absurd hk (Nat.not_lt_zero k), pSI_at⟩ (by
    intro i a hi ⟨ha1, ha2, ha3, ha4, ha5⟩
    have qa := q.ps ha1 (by decide) (by decide) (by decide)
    have qsa := qs.ps ha1 (by decide) (by decide)
    obtain ⟨p, hp, hp20, ep⟩ := (hs.2 i hi).who hk
    obtain ⟨σ2, r2, f2, v2⟩ := s_tellValues (G := G) (d := d + 2) qa hk qsa hs hi (ha2 i hi).1 (ha2 i hi).2
    obtain ⟨σ3, r3, f3⟩ := s_firstRuleC (G := G) (d := d + 1) (v := mVal h s i) (qa.ps f2 (by decide) (by decide) (by decide)) hk v2
    have f23 : pSame [22, 23] a σ3 := (f2.mono (by intro o ho; simp at ho ⊢; omega)).trans (f3.mono (by intro o ho; simp at ho ⊢; omega))
    have eR : pFirst (fun r => pEv (mVal h s i) (hR h r) []) (hn h 4) 0 = mRule h s i := rfl
    rw [eR] at r3
    have e13 : a.1 13 1 = Int32.ofNat s.1 := qsa.1
    have e17 : σ3.1 17 6 = a.1 17 6 := congrFun (f23.at (by decide)) 6
    have hw : (s.2 i 16).toNatClampNeg = p := by rw [ep, pN_cl (by omega)]
    have fin : ∀ x : Int32, x = mOff h s i → ∃ b, (pSame [17, 18, 19, 20, 21, 22, 23] σ b ∧ (∀ k, k < s.1 → b.1 19 k = mSum h s k false ∧ b.1 20 k = mSum h s k true) ∧ (∀ p, p < 20 → b.1 21 p = mYes h s p) ∧ (∀ k, k < i + 1 → b.1 18 k = mOff h s k) ∧ b.1 17 6 = Int32.ofNat ((List.range (i + 1)).filter fun k => decide (mOff h s k = -1)).length) ∧ (if x = -1 then Lq G (d + 6) M_115 (13, [some (.ref 17), some (.ref 3), some (.ref 13), some (.int (Int32.ofNat i + 1)), none], [], aSI (aSI σ3 18 i x) 17 6 ((aSI σ3 18 i x).1 17 6 + 1)) else Lq G (d + 6) M_115 (13, [some (.ref 17), some (.ref 3), some (.ref 13), some (.int (Int32.ofNat i + 1)), none], [], aSI (aSI σ3 18 i x) 17 6 ((aSI σ3 18 i x).1 17 6 + 0))) = Lq G (d + 6) M_115 (13, [some (.ref 17), some (.ref 3), some (.ref 13), some (.int (Int32.ofNat (i + 1))), none], [], b) := by
      intro x hx
      refine ⟨aSI (aSI σ3 18 i x) 17 6 (Int32.ofNat ((List.range (i + 1)).filter fun k => decide (mOff h s k = -1)).length), ⟨((ha1.trans (f23.mono (by intro o ho; simp at ho ⊢; omega))).si (by decide)).si (by decide), ?_, ?_, ?_, pSI_at⟩, ?_⟩
      · rw [pSI_ne (by decide), pSI_ne (by decide), pSI_ne (by decide), pSI_ne (by decide), f23.at (by decide), f23.at (by decide)]
        exact ha2
      · rw [pSI_ne (by decide), pSI_ne (by decide), f23.at (by decide)]
        exact ha3
      · intro k hk
        rw [pSI_ne (by decide)]
        by_cases h : k = i
        · subst h
          rw [pSI_at, hx]
        · rw [pSI_of h, f23.at (by decide)]
          exact ha4 k (by omega)
      · rw [pSI_ne (by decide), e17, ha5, mCl_succ h s.2 s i, ← hx, pN_s]
        by_cases h1 : x = -1
        · rw [if_pos h1, if_pos h1, pN_s]
        · rw [if_neg h1, if_neg h1, Int32.add_zero]
          rfl
    rw [c_Rh_Sieve_sift_13, e13, if_neg (pGo hi (by omega)), r2, pCV, r3, pCI]
    have qs3 := qsa.ps f23 (by decide) (by decide)
    by_cases h1 : mRule h s i = -1
    · have g21 : σ3.1 21 p = mYes h s p := (congrFun (f23.at (by decide)) p).trans (ha3 p hp20)
      have gy : Rn G (d + 6) 128 [.ref 17, .int (Int32.ofNat p)] σ3 = oI (if 0 < mYes h s p then 1 else 0) σ3 := by
        rw [e_Rh_Sieve_saysYes, s_cell (r := 21) (n := 20) (i := p) rfl rfl hp20 (by decide), pCI, g21]
        by_cases h1 : mYes h s p ≤ 0
        · rw [if_pos h1, if_neg (fun h2 => absurd h1 (pNotLe.mpr h2))]
        · rw [if_neg h1, if_pos (pNotLe.mp h1)]
      rw [if_pos h1, s_getN (x := 16) (c := 16) qs3 h60 hi (by decide) rfl, pCI, ep, gy, pCI, pB0]
      by_cases h2 : 0 < mYes h s p
      · have hx : (-2 : Int32) = mOff h s i := by
          unfold mOff
          rw [if_pos h1, hw, if_pos h2]
        obtain ⟨b, hb, hb2⟩ := fin (-2) hx
        exact ⟨b, hb, by rw [if_pos h2, s_put (r := 18) (n := 60) (i := i) rfl rfl (by omega) (by decide), pCV]; exact hb2⟩
      · have hx : mRule h s i = mOff h s i := by
          unfold mOff
          rw [if_pos h1, hw, if_neg h2, h1]
        obtain ⟨b, hb, hb2⟩ := fin (mRule h s i) hx
        exact ⟨b, hb, by rw [if_neg h2, s_put (r := 18) (n := 60) (i := i) rfl rfl (by omega) (by decide), pCV]; exact hb2⟩
    · have hx : mRule h s i = mOff h s i := by
        unfold mOff
        rw [if_neg h1]
      obtain ⟨b, hb, hb2⟩ := fin (mRule h s i) hx
      refine ⟨b, hb, ?_⟩
      rw [if_neg h1, s_put (r := 18) (n := 60) (i := i) rfl rfl (by omega) (by decide), pCV]
      exact hb2)
  have e' : Lq G (d + 6) M_115 (13, [some (.ref 17), some (.ref 3), some (.ref 13), some (.int 0), none], [], aSI σ1 17 6 0) = Lq G (d + 6) M_115 (13, [some (.ref 17), some (.ref 3), some (.ref 13), some (.int (Int32.ofNat s.1)), none], [], b) := e
  have e13 : b.1 13 1 = Int32.ofNat s.1 := (qs.ps hb1 (by decide) (by decide)).1
  refine ⟨b, ?_, hb1, ⟨fun k hk => ⟨hb4 k hk, hb2 k hk⟩, hb3, hb5⟩⟩
  rw [e', c_Rh_Sieve_sift_13, e13, if_pos pEnd]
end PSieve
