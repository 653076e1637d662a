/-! ===== what both sides hold: a house, sheets; and how each holds it ===== -/
/-- a house: how many of each kind; people, sittings, laws; which lines are said; the rules' steps -/
abbrev Ho : Type := (Nat → Nat) × (Nat → Int32) × (Nat → Int32) × (Nat → Int32) × (Nat → Bool) × (Nat → List Int32)
def hn (h : Ho) (k : Nat) : Nat := h.1 k
def hP (h : Ho) : Nat → Int32 := h.2.1
def hS (h : Ho) : Nat → Int32 := h.2.2.1
def hL (h : Ho) : Nat → Int32 := h.2.2.2.1
def hN (h : Ho) : Nat → Bool := h.2.2.2.2.1
def hR (h : Ho) : Nat → List Int32 := h.2.2.2.2.2
/-- sheets: how many; the columns (12 answers, shown, start, slow, cold or 100, who, where) -/
abbrev Sh : Type := Nat × (Nat → Nat → Int32)
/-- a stretch of a row -/
def pSeg (f : Nat → Int32) (a : Nat) : List Int32 → Prop
  | [] => True
  | x :: xs => f a = x ∧ pSeg f (a + 1) xs
/-- steps that find their operands, never more than 64, and leave one -/
def pWf : List Int32 → Nat → Prop
  | [], n => n = 1
  | x :: xs, n => if 0 ≤ x then x < 10012 ∧ n < 64 ∧ pWf xs (n + 1) else if x = -3 then 1 ≤ n ∧ pWf xs n else -9 ≤ x ∧ 2 ≤ n ∧ pWf xs (n - 1)
/-- the reference's code of a step -/
def rOp (x : Int32) : Int32 := if x = -1 then 5 else if x = -2 then 4 else if x = -3 then 3 else if x = -4 then 6 else if x = -5 then 7 else if x = -6 then 8 else if x = -7 then 9 else if x = -8 then 10 else 11
def rEnc : List Int32 → List Int32
  | [] => [0]
  | x :: xs => if 0 ≤ x then (if x < 10000 then 1 :: x :: rEnc xs else 2 :: (x - 10000) :: rEnc xs) else rOp x :: rEnc xs
/-- one of a house's people, sittings, laws: within its bounds -/
def okP (P : Nat → Int32) (p : Nat) : Prop := pBd (P (6 * p)) 1 99 ∧ pBd (P (6 * p + 1)) 1 99 ∧ pBd (P (6 * p + 2)) 1 999 ∧ pBd (P (6 * p + 3)) 0 1000 ∧ pBd (P (6 * p + 4)) 0 100 ∧ pBd (P (6 * p + 5)) 0 100
def okS (S : Nat → Int32) (s : Nat) : Prop := pBd (S (6 * s)) 0 999 ∧ pBd (S (6 * s + 1)) 0 2000 ∧ (S (6 * s + 2) = 0 ∨ S (6 * s + 2) = 1 ∨ S (6 * s + 2) = 2) ∧ (S (6 * s + 3) = 0 ∨ S (6 * s + 3) = 1 ∨ S (6 * s + 3) = 2) ∧ (S (6 * s + 4) = 0 ∨ S (6 * s + 4) = 1) ∧ pBd (S (6 * s + 5)) 0 600
def okL (L : Nat → Int32) (l : Nat) : Prop := (L (5 * l) = 0 ∨ L (5 * l) = 1 ∨ L (5 * l) = 2) ∧ pBd (L (5 * l + 1)) 1 1000 ∧ pBd (L (5 * l + 2)) 1 99 ∧ pBd (L (5 * l + 3)) 0 1000 ∧ pBd (L (5 * l + 4)) 0 1000
def Hok (h : Ho) : Prop := (hn h 0 ≤ 20 ∧ hn h 1 ≤ 20 ∧ hn h 2 ≤ 6 ∧ hn h 3 ≤ 12 ∧ hn h 4 ≤ 4) ∧ (∀ p, p < hn h 0 → okP (hP h) p) ∧ (∀ s, s < hn h 1 → okS (hS h) s) ∧ (∀ l, l < hn h 2 → okL (hL h) l) ∧ ∀ r, r < hn h 4 → pWf (hR h r) 0
/-- a sheet's columns within their bounds -/
def okT (h : Ho) (T : Nat → Int32) : Prop := (∃ p, p < hn h 0 ∧ T 16 = Int32.ofNat p) ∧ (∃ s, s < hn h 1 ∧ T 17 = Int32.ofNat s) ∧ (∀ c, c < 12 → pBd (T c) (-3) 3) ∧ pBd (T 12) (-999) 999 ∧ pBd (T 13) 0 100 ∧ pBd (T 14) 0 601 ∧ (T 15 = 100 ∨ pBd (T 15) (-50) 50)
def Sok (h : Ho) (s : Sh) : Prop := s.1 ≤ 60 ∧ ∀ k, k < s.1 → okT h (s.2 k)
/-- the class's house -/
def cHo (σ : aH) (h : Ho) : Prop := (∀ k, k < 5 → σ.1 4 k = Int32.ofNat (hn h k)) ∧ (∀ p, p < hn h 0 → ∀ k, k < 6 → σ.1 5 (6 * p + k) = hP h (6 * p + k)) ∧ (∀ s, s < hn h 1 → ∀ k, k < 6 → σ.1 5 (120 + (6 * s + k)) = hS h (6 * s + k)) ∧ (∀ l, l < hn h 2 → ∀ k, k < 5 → σ.1 5 (240 + (5 * l + k)) = hL h (5 * l + k)) ∧ (∀ j, j < hn h 3 → σ.1 5 (270 + j) = if hN h j = true then 1 else 0) ∧ ∃ st : Nat → Nat, st 0 = 0 ∧ ∀ r, r < hn h 4 → σ.1 5 (282 + r) = Int32.ofNat (st (r + 1)) ∧ st (r + 1) = st r + (hR h r).length ∧ st (r + 1) ≤ 700 ∧ pSeg (σ.1 6) (st r) (hR h r)
/-- the reference's -/
def rHo (σ : aH) (h : Ho) : Prop := (∀ k, k < 5 → σ.1 33 (1 + k) = Int32.ofNat (hn h k)) ∧ (∀ p, p < hn h 0 → ∀ k, k < 6 → σ.1 34 (6 * p + k) = hP h (6 * p + k)) ∧ (∀ s, s < hn h 1 → ∀ k, k < 6 → σ.1 35 (6 * s + k) = hS h (6 * s + k)) ∧ (∀ l, l < hn h 2 → ∀ k, k < 5 → σ.1 36 (5 * l + k) = hL h (5 * l + k)) ∧ (∀ j, j < hn h 3 → σ.1 39 j = if hN h j = true then 1 else 0) ∧ ∀ r, r < hn h 4 → ∃ a, σ.1 37 r = Int32.ofNat a ∧ a + (rEnc (hR h r)).length ≤ 1200 ∧ pSeg (σ.1 38) a (rEnc (hR h r))
/-- the class's sheets: how many stand in a place, the columns in a row -/
def cSh (σ : aH) (o : Nat) (s : Sh) : Prop := σ.1 o 1 = Int32.ofNat s.1 ∧ ∀ k, k < s.1 → ∀ c, c < 18 → σ.1 (o + 1) (18 * k + c) = s.2 k c
/-- the reference's: rows of sheets, of what was found cold, and whether it was looked for -/
def rSh (σ : aH) (a b c : Nat) (s : Sh) : Prop := ∀ k, k < s.1 → (∀ j, j < 15 → σ.1 a (17 * k + j) = s.2 k j) ∧ σ.1 a (17 * k + 15) = s.2 k 16 ∧ σ.1 a (17 * k + 16) = s.2 k 17 ∧ (σ.1 c k = 0 ∨ σ.1 c k = 1) ∧ (if σ.1 c k = 0 then s.2 k 15 = 100 else s.2 k 15 = σ.1 b k ∧ s.2 k 15 ≠ 100)
theorem cHo.same {σ σ' : aH} {h : Ho} (q : cHo σ h) (h4 : σ'.1 4 = σ.1 4) (h5 : σ'.1 5 = σ.1 5) (h6 : σ'.1 6 = σ.1 6) : cHo σ' h := by
  unfold cHo
  rw [h4, h5, h6]
  exact q
theorem rHo.same {σ σ' : aH} {h : Ho} (q : rHo σ h) (h33 : ∀ k, k < 5 → σ'.1 33 (1 + k) = σ.1 33 (1 + k)) (h34 : σ'.1 34 = σ.1 34) (h35 : σ'.1 35 = σ.1 35) (h36 : σ'.1 36 = σ.1 36) (h37 : σ'.1 37 = σ.1 37) (h38 : σ'.1 38 = σ.1 38) (h39 : σ'.1 39 = σ.1 39) : rHo σ' h := by
  unfold rHo
  rw [h34, h35, h36, h37, h38, h39]
  exact ⟨fun k hk => (h33 k hk).trans (q.1 k hk), q.2⟩
theorem cSh.same {σ σ' : aH} {o : Nat} {s : Sh} (q : cSh σ o s) (h1 : σ'.1 o = σ.1 o) (h2 : σ'.1 (o + 1) = σ.1 (o + 1)) : cSh σ' o s := by
  unfold cSh
  rw [h1, h2]
  exact q
theorem rSh.same {σ σ' : aH} {a b c : Nat} {s : Sh} (q : rSh σ a b c s) (h1 : σ'.1 a = σ.1 a) (h2 : σ'.1 b = σ.1 b) (h3 : σ'.1 c = σ.1 c) : rSh σ' a b c s := by
  unfold rSh
  rw [h1, h2, h3]
  exact q
/-- bounds of a head -/
theorem pHr_of {P S L : Nat → Int32} {p s l : Nat} (h1 : okP P p) (h2 : okS S s) (h3 : okL L l) : pHr (mkH P S L p s l) := by
  obtain ⟨a0, a1, a2, a3, a4, a5⟩ := h1
  obtain ⟨b0, b1, b2, b3, b4, b5⟩ := h2
  obtain ⟨c0, c1, c2, c3, c4⟩ := h3
  exact ⟨a0, a1, a2, a3, a4, a5, b0, b1, b2, b3, b4, b5, c0, c1, c3, c4⟩
/-- what a sheet's answers to one sort of lines are together -/
def mSum (h : Ho) (s : Sh) (k : Nat) (sd : Bool) : Int32 := pFo (fun j a => if hN h j = sd then a + s.2 k j else a) (hn h 3) 0 0
/-- what a person's answers to lines that are said are together -/
def mYes (h : Ho) (s : Sh) (p : Nat) : Int32 := pFo (fun k a => if s.2 k 16 = Int32.ofNat p then a + mSum h s k true else a) s.1 0 0
section PSums
variable {G : Nat × (Nat → Int32)} {d : Nat} {σ : aH} {h : Ho} {s : Sh}
theorem okT.who {T : Nat → Int32} (q : okT h T) (hk : Hok h) : ∃ p, p < hn h 0 ∧ p < 20 ∧ T 16 = Int32.ofNat p := by
  obtain ⟨⟨p, hp, e⟩, _⟩ := q
  exact ⟨p, hp, by have := hk.1.1; omega, e⟩
theorem okT.at {T : Nat → Int32} (q : okT h T) (hk : Hok h) : ∃ p, p < hn h 1 ∧ p < 20 ∧ T 17 = Int32.ofNat p := by
  obtain ⟨_, ⟨p, hp, e⟩, _⟩ := q
  exact ⟨p, hp, by have := hk.1.2.1; omega, e⟩
theorem s_hasN {x1 : Int32} {k n j : Nat} (hx : x1 = Int32.ofNat k) (hk : k < 5) (hn : σ.1 4 k = Int32.ofNat n) (hb : n < 2147483648) (hj : j < 2147483648) : Rn G (d + 2) 103 [.ref 3, .int x1, .int (Int32.ofNat j)] σ = oI (if j < n then 1 else 0) σ := by
  rw [s_has hx hk hn, pIffI (P := 0 ≤ Int32.ofNat j ∧ Int32.ofNat j < Int32.ofNat n) (Q := j < n) ⟨fun h => (pN_lt hj hb).mp h.2, fun h => ⟨pN_0 hj, (pN_lt hj hb).mpr h⟩⟩]
theorem s_lineIsSaid (q : cHo σ h) (hk : Hok h) {j : Nat} (hj : j < 12) : Rn G (d + 3) 118 [.ref 3, .int (Int32.ofNat j)] σ = oI (if j < hn h 3 ∧ hN h j = true then 1 else 0) σ := by
  have h3 := hk.1.2.2.2.1
  rw [e_Rh_House_lineIsSaid, s_hasN (x1 := 3) (k := 3) (n := hn h 3) rfl (by decide) (q.1 3 (by decide)) (by omega) (by omega), pCI, pB0]
  by_cases h1 : j < hn h 3
  · rw [if_pos h1, s_toldN (i := j) rfl hj, pCI, q.2.2.2.2.1 j h1, pB1, pOI]
    simp only [h1, true_and]
  · rw [if_neg h1, if_neg (fun h2 => h1 h2.1)]
/-- the reference's sum -/
theorem s_sum (q : rHo σ h) (hk : Hok h) (qs : rSh σ 40 53 54 s) {k : Nat} (hk2 : k < s.1) (hk3 : s.1 ≤ 60) {sd : Bool} {x : Int32} (hx : x = if sd = true then 1 else 0) : Rn G (d + 1) 135 [.ref 33, .int (Int32.ofNat k), .int x] σ = oI (mSum h s k sd) σ := by
  have h3 := hk.1.2.2.2.1
  have e4 : σ.1 33 4 = Int32.ofNat (hn h 3) := q.1 3 (by decide)
  rw [e_Md_sum]
  refine (pLoop0 (G := G) (d := d) (M := M_135) (fun i a => (5, [some (.ref 33), some (.int (Int32.ofNat k)), some (.int x), some (.int a), some (.int (Int32.ofNat i))], [], σ)) (fun j a => if hN h j = sd then a + s.2 k j else a) (hn h 3) 0 ?_).trans ?_
  · intro i a hi
    show Lq G d M_135 (5, [some (.ref 33), some (.int (Int32.ofNat k)), some (.int x), some (.int a), some (.int (Int32.ofNat i))], [], σ) = Lq G d M_135 (5, [some (.ref 33), some (.int (Int32.ofNat k)), some (.int x), some (.int (if hN h i = sd then a + s.2 k i else a)), some (.int (Int32.ofNat (i + 1)))], [], σ)
    rw [c_Md_sum_5, e4, if_neg (pGo hi (by omega)), pIx (by omega) (by decide), q.2.2.2.2.1 i hi, pM17, pA, pIx (by omega) (by decide), (qs k hk2).1 i (by omega), pN_s, Int32.add_zero, hx]
    cases hN h i <;> cases sd <;> rfl
  · show Lq G d M_135 (5, [some (.ref 33), some (.int (Int32.ofNat k)), some (.int x), some (.int (mSum h s k sd)), some (.int (Int32.ofNat (hn h 3)))], [], σ) = _
    rw [c_Md_sum_5, e4, if_pos pEnd]
/-- does the person say yes: the reference's -/
theorem s_saysYesM (q : rHo σ h) (hk : Hok h) (qs : rSh σ 40 53 54 s) (hs : Sok h s) (e12 : σ.1 33 12 = Int32.ofNat s.1) {p : Nat} : Rn G (d + 2) 137 [.ref 33, .int (Int32.ofNat p)] σ = oI (if 0 < mYes h s p then 1 else 0) σ := by
  have h60 := hs.1
  rw [e_Md_saysYes]
  refine (pLoop0 (G := G) (d := d + 1) (M := M_137) (fun i a => (4, [some (.ref 33), some (.int (Int32.ofNat p)), some (.int a), some (.int (Int32.ofNat i))], [], σ)) (fun k a => if s.2 k 16 = Int32.ofNat p then a + mSum h s k true else a) s.1 0 ?_).trans ?_
  · intro i a hi
    show Lq G (d + 1) M_137 (4, [some (.ref 33), some (.int (Int32.ofNat p)), some (.int a), some (.int (Int32.ofNat i))], [], σ) = Lq G (d + 1) M_137 (4, [some (.ref 33), some (.int (Int32.ofNat p)), some (.int (if s.2 i 16 = Int32.ofNat p then a + mSum h s i true else a)), some (.int (Int32.ofNat (i + 1)))], [], σ)
    rw [c_Md_saysYes_4, e12, if_neg (pGo hi (by omega)), pM17, show (15 : Int32) = Int32.ofNat 15 from rfl, pA, pIx (by omega) (by decide), (qs i hi).2.1, s_sum q hk qs hi h60 (sd := true) (by rfl), pCI, pN_s, Int32.add_zero]
    by_cases h1 : s.2 i 16 = Int32.ofNat p
    · rw [if_pos h1, if_pos h1]
    · rw [if_neg h1, if_neg h1]
  · show Lq G (d + 1) M_137 (4, [some (.ref 33), some (.int (Int32.ofNat p)), some (.int (mYes h s p)), some (.int (Int32.ofNat s.1))], [], σ) = _
    rw [c_Md_saysYes_4, e12, if_pos pEnd]
    by_cases h1 : mYes h s p ≤ 0
    · rw [if_pos h1, if_neg (fun h2 => absurd h1 (pNotLe.mpr h2))]
    · rw [if_neg h1, if_pos (pNotLe.mp h1)]
end PSums
