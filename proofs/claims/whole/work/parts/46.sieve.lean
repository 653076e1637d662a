/-! ===== which sheets are off ===== -/
def mWorth (h : Ho) (s : Sh) (k r : Nat) : Int32 := pEv (mVal h s k) (hR h r) []
/-- the first that isn't 0, from one on, of so many; or -1 -/
def pFirst (f : Nat → Int32) : Nat → Nat → Int32
  | 0, _ => -1
  | n + 1, i => if f i = 0 then pFirst f n (i + 1) else Int32.ofNat i
theorem pFirst_succ (f : Nat → Int32) (n i : Nat) : pFirst f (n + 1) i = if f i = 0 then pFirst f n (i + 1) else Int32.ofNat i := rfl
def mRule (h : Ho) (s : Sh) (k : Nat) : Int32 := pFirst (mWorth h s k) (hn h 4) 0
def mOff (h : Ho) (s : Sh) (k : Nat) : Int32 := if mRule h s k = -1 then (if 0 < mYes h s (s.2 k 16).toNatClampNeg then -2 else -1) else mRule h s k
def mCl (h : Ho) (s : Sh) : List Nat := (List.range s.1).filter fun k => decide (mOff h s k = -1)
theorem pFirst_ne {f : Nat → Int32} : ∀ (n i : Nat), i + n < 2147483648 → pFirst f n i = -1 ∨ ∃ j, j < i + n ∧ pFirst f n i = Int32.ofNat j
  | 0, _, _ => Or.inl rfl
  | n + 1, i, h => by
    rw [pFirst_succ]
    by_cases h1 : f i = 0
    · rw [if_pos h1]
      rcases pFirst_ne n (i + 1) (by omega) with h2 | ⟨j, hj, h2⟩
      · exact Or.inl h2
      · exact Or.inr ⟨j, by omega, h2⟩
    · rw [if_neg h1]
      exact Or.inr ⟨i, by omega, rfl⟩
section PSieve
variable {G : Nat × (Nat → Int32)} {d : Nat} {σ : aH} {h : Ho} {s : Sh}
/-- what the class's sieve holds behind sift -/
def cSv (σ : aH) (h : Ho) (s : Sh) : Prop := (∀ k, k < s.1 → σ.1 18 k = mOff h s k ∧ σ.1 19 k = mSum h s k false ∧ σ.1 20 k = mSum h s k true) ∧ (∀ p, p < 20 → σ.1 21 p = mYes h s p) ∧ σ.1 17 6 = Int32.ofNat (mCl h s).length
theorem cSv.same {σ σ' : aH} (q : cSv σ h s) (h17 : σ'.1 17 = σ.1 17) (h18 : σ'.1 18 = σ.1 18) (h19 : σ'.1 19 = σ.1 19) (h20 : σ'.1 20 = σ.1 20) (h21 : σ'.1 21 = σ.1 21) : cSv σ' h s := by
  unfold cSv
  rw [h17, h18, h19, h20, h21]
  exact q
theorem s_getN (qs : cSh σ 13 s) (h60 : s.1 ≤ 60) {k c : Nat} (hk : k < s.1) (hc : c < 18) {x : Int32} (hx : x = Int32.ofNat c) : Rn G (d + 2) 117 [.ref 13, .int (Int32.ofNat k), .int x] σ = oI (s.2 k c) σ := by
  rw [s_get (k := k) (c := c) rfl hx (by omega), qs.2 k hk c hc]
/-- the answers of one sheet, added up -/
theorem s_addOne (q : cHo σ h) (hk : Hok h) (qs : cSh σ 13 s) (h60 : s.1 ≤ 60) {k : Nat} (hk2 : k < s.1) : Lq G (d + 3) M_116 (53, [some (.ref 17), some (.ref 3), some (.ref 13), some (.int (Int32.ofNat (hn h 3))), some (.int (Int32.ofNat k)), some (.int 0), some (.int 0), some (.int 0), none], [], σ) = Lq G (d + 3) M_116 (53, [some (.ref 17), some (.ref 3), some (.ref 13), some (.int (Int32.ofNat (hn h 3))), some (.int (Int32.ofNat k)), some (.int (mSum h s k false)), some (.int (mSum h s k true)), some (.int (Int32.ofNat (hn h 3))), none], [], σ) := by
  have h3 := hk.1.2.2.2.1
  have e := pLoop0 (G := G) (d := d + 3) (M := M_116) (fun i (a : Int32 × Int32) => (53, [some (.ref 17), some (.ref 3), some (.ref 13), some (.int (Int32.ofNat (hn h 3))), some (.int (Int32.ofNat k)), some (.int a.1), some (.int a.2), some (.int (Int32.ofNat i)), none], [], σ)) (fun j a => (if hN h j = false then a.1 + s.2 k j else a.1, if hN h j = true then a.2 + s.2 k j else a.2)) (hn h 3) (0, 0) (by
    intro i a hi
    show Lq G (d + 3) M_116 (53, [some (.ref 17), some (.ref 3), some (.ref 13), some (.int (Int32.ofNat (hn h 3))), some (.int (Int32.ofNat k)), some (.int a.1), some (.int a.2), some (.int (Int32.ofNat i)), none], [], σ) = Lq G (d + 3) M_116 (53, [some (.ref 17), some (.ref 3), some (.ref 13), some (.int (Int32.ofNat (hn h 3))), some (.int (Int32.ofNat k)), some (.int (if hN h i = false then a.1 + s.2 k i else a.1)), some (.int (if hN h i = true then a.2 + s.2 k i else a.2)), some (.int (Int32.ofNat (i + 1))), none], [], σ)
    rw [c_Rh_Sieve_addAnswers_53, if_neg (pGo hi (by omega)), s_getN qs h60 hk2 (show i < 18 by omega) rfl, pCI, s_lineIsSaid q hk (show i < 12 by omega), pCI, pB0, pN_s]
    cases e : hN h i
    · rw [if_neg (fun h2 => absurd h2.2 (by decide)), if_pos rfl, if_neg (by decide)]
    · rw [if_pos ⟨hi, rfl⟩, if_neg (by decide), if_pos rfl])
  have e2 : pFo (fun j (a : Int32 × Int32) => (if hN h j = false then a.1 + s.2 k j else a.1, if hN h j = true then a.2 + s.2 k j else a.2)) (hn h 3) 0 (0, 0) = (mSum h s k false, mSum h s k true) := by
    unfold mSum
    generalize (0 : Int32) = z
    have g : ∀ (n i : Nat) (a b : Int32), pFo (fun j (a : Int32 × Int32) => (if hN h j = false then a.1 + s.2 k j else a.1, if hN h j = true then a.2 + s.2 k j else a.2)) n i (a, b) = (pFo (fun j a => if hN h j = false then a + s.2 k j else a) n i a, pFo (fun j a => if hN h j = true then a + s.2 k j else a) n i b) := by
      intro n
      induction n with
      | zero => intro i a b; rfl
      | succ n ih => intro i a b; exact ih (i + 1) _ _
    exact g _ _ _ _
  rw [e2] at e
  exact e
/-- all answers: felt, said, and by person -/
theorem s_addAnswers (q : cHo σ h) (hk : Hok h) (qs : cSh σ 13 s) (hs : Sok h s) : ∃ σ', Rn G (d + 4) 116 [.ref 17, .ref 3, .ref 13] σ = oV σ' ∧ pSame [19, 20, 21] σ σ' ∧ (∀ k, k < s.1 → σ'.1 19 k = mSum h s k false ∧ σ'.1 20 k = mSum h s k true) ∧ ∀ p, p < 20 → σ'.1 21 p = mYes h s p := by
  have h60 := hs.1
  have h3 := hk.1.2.2.2.1
  rw [e_Rh_Sieve_addAnswers]
  obtain ⟨b, ⟨hb1, hb2⟩, e⟩ := pLoopR0 (G := G) (d := d + 3) (M := M_116) (fun i a => (2, [some (.ref 17), some (.ref 3), some (.ref 13), some (.int (Int32.ofNat i)), none, none, none, none, none], [], a)) (fun i a => pSame [19, 20, 21] σ a ∧ ∀ k, k < i → a.1 21 k = 0) 20 σ ⟨pSame.rfl', fun k hk => absurd hk (Nat.not_lt_zero k)⟩ (by
    intro i a hi ha
    refine ⟨aSI a 21 i 0, ⟨ha.1.si (by decide), ?_⟩, ?_⟩
    · intro k hk
      by_cases h : k = i
      · subst h
        exact pSI_at
      · rw [pSI_of h]
        exact ha.2 k (by omega)
    · rw [c_Rh_Sieve_addAnswers_2, if_neg (pGoL (c := 20) (n := 20) rfl hi (by decide)), s_put (r := 21) (n := 20) (i := i) rfl rfl hi (by decide), pCV, pN_s])
  have e' : Lq G (d + 3) M_116 (2, [some (.ref 17), some (.ref 3), some (.ref 13), some (.int 0), none, none, none, none, none], [], σ) = Lq G (d + 3) M_116 (2, [some (.ref 17), some (.ref 3), some (.ref 13), some (.int (Int32.ofNat 20)), none, none, none, none, none], [], b) := e
  have qb : cHo b h := q.same (hb1 4 (by decide)).1 (hb1 5 (by decide)).1 (hb1 6 (by decide)).1
  rw [e', c_Rh_Sieve_addAnswers_2, if_pos (pEndL (c := 20) (n := 20) rfl), s_howMany (x := 3) (k := 3) rfl (by decide), pCI, qb.1 3 (by decide)]
  obtain ⟨c, ⟨hc1, hc2, hc3⟩, f⟩ := pLoopR0 (G := G) (d := d + 3) (M := M_116) (fun i a => (35, [some (.ref 17), some (.ref 3), some (.ref 13), some (.int (Int32.ofNat (hn h 3))), some (.int (Int32.ofNat i)), none, none, none, none], [], a)) (fun i a => pSame [19, 20, 21] σ a ∧ (∀ k, k < i → a.1 19 k = mSum h s k false ∧ a.1 20 k = mSum h s k true) ∧ ∀ p, p < 20 → a.1 21 p = pFo (fun k a => if s.2 k 16 = Int32.ofNat p then a + mSum h s k true else a) i 0 0) s.1 b ⟨hb1, fun k hk => absurd hk (Nat.not_lt_zero k), fun p hp => hb2 p hp⟩ (by
    intro i a hi ⟨ha1, ha2, ha3⟩
    have qa : cHo a h := q.same (ha1 4 (by decide)).1 (ha1 5 (by decide)).1 (ha1 6 (by decide)).1
    have qsa : cSh a 13 s := qs.same (ha1 13 (by decide)).1 (ha1 14 (by decide)).1
    obtain ⟨p, hp, hp20, ep⟩ := (hs.2 i hi).who hk
    refine ⟨aSI (aSI (aSI a 19 i (mSum h s i false)) 20 i (mSum h s i true)) 21 p (a.1 21 p + mSum h s i true), ⟨((ha1.si (by decide)).si (by decide)).si (by decide), ?_, ?_⟩, ?_⟩
    · intro k hk
      rw [pSI_ne (by decide : 19 ≠ 21), pSI_ne (by decide : 19 ≠ 20), pSI_ne (by decide : 20 ≠ 21)]
      by_cases h : k = i
      · subst h
        rw [pSI_at, pSI_at]
        exact ⟨rfl, rfl⟩
      · rw [pSI_of h, pSI_of h, pSI_ne (by decide : 20 ≠ 19)]
        exact ha2 k (by omega)
    · intro p' hp'
      rw [pFo_snoc, Nat.zero_add, ep]
      by_cases h : p' = p
      · subst h
        rw [pSI_at, if_pos rfl, ha3 p' hp']
      · rw [pSI_of h, if_neg (fun h2 => h ((pN_eq (by omega) (by omega)).mp h2).symm), pSI_ne (by decide), pSI_ne (by decide), ha3 p' hp']
    · have e13 : a.1 13 1 = Int32.ofNat s.1 := qsa.1
      have g1 : cSh (aSI (aSI a 19 i (mSum h s i false)) 20 i (mSum h s i true)) 13 s := qsa.same (by rw [pSI_ne (by decide), pSI_ne (by decide)]) (by rw [pSI_ne (by decide), pSI_ne (by decide)])
      rw [c_Rh_Sieve_addAnswers_35, e13, if_neg (pGo hi (by omega)), s_addOne qa hk qsa h60 hi, c_Rh_Sieve_addAnswers_53, if_pos pEnd, s_put (r := 19) (n := 60) (i := i) rfl rfl (by omega) (by decide), pCV, s_put (r := 20) (n := 60) (i := i) rfl rfl (by omega) (by decide), pCV, s_getN g1 h60 hi (show 16 < 18 by decide) rfl, pCI, ep, s_cell (r := 21) (n := 20) (i := p) rfl rfl hp20 (by decide), pCI, s_put (r := 21) (n := 20) (i := p) rfl rfl hp20 (by decide), pCV, pN_s, pSI_ne (by decide), pSI_ne (by decide)])
  have f' : Lq G (d + 3) M_116 (35, [some (.ref 17), some (.ref 3), some (.ref 13), some (.int (Int32.ofNat (hn h 3))), some (.int 0), none, none, none, none], [], b) = Lq G (d + 3) M_116 (35, [some (.ref 17), some (.ref 3), some (.ref 13), some (.int (Int32.ofNat (hn h 3))), some (.int (Int32.ofNat s.1)), none, none, none, none], [], c) := f
  have e13 : c.1 13 1 = Int32.ofNat s.1 := (congrFun (hc1 13 (by decide)).1 1).trans qs.1
  refine ⟨c, ?_, hc1, hc2, hc3⟩
  rw [f', c_Rh_Sieve_addAnswers_35, e13, if_pos pEnd]
