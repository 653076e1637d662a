/-! ===== the head of a sheet; fails ===== -/
theorem cSv.ps {h : Ho} {s : Sh} {os : List Nat} {σ σ' : aH} (q : cSv σ h s) (f : pSame os σ σ') (hh : ∀ o, o ∈ [17, 18, 19, 20, 21] → o ∉ os) : cSv σ' h s := q.same (f.at (hh 17 (by decide))) (f.at (hh 18 (by decide))) (f.at (hh 19 (by decide))) (f.at (hh 20 (by decide))) (f.at (hh 21 (by decide)))
theorem rHo.ps {h : Ho} {os : List Nat} {σ σ' : aH} (q : rHo σ h) (f : pSame os σ σ') (hh : ∀ o, o ∈ [33, 34, 35, 36, 37, 38, 39] → o ∉ os) : rHo σ' h := q.same (fun k _ => by rw [f.at (hh 33 (by decide))]) (f.at (hh 34 (by decide))) (f.at (hh 35 (by decide))) (f.at (hh 36 (by decide))) (f.at (hh 37 (by decide))) (f.at (hh 38 (by decide))) (f.at (hh 39 (by decide)))
theorem rSh.ps {s : Sh} {os : List Nat} {σ σ' : aH} (q : rSh σ 40 53 54 s) (f : pSame os σ σ') (hh : ∀ o, o ∈ [40, 53, 54] → o ∉ os) : rSh σ' 40 53 54 s := q.same (f.at (hh 40 (by decide))) (f.at (hh 53 (by decide))) (f.at (hh 54 (by decide)))
theorem rG.ps {L : List Nat} {os : List Nat} {σ σ' : aH} (g : rG σ L) (f : pSame os σ σ') (h33 : 33 ∉ os) (h56 : 56 ∉ os) : rG σ' L := by
  unfold rG
  rw [f.at h33, f.at h56]
  exact g
section PFails
variable {G : Nat × (Nat → Int32)} {d : Nat} {σ : aH} {m : St}
def mWho (s : Sh) (k : Nat) : Nat := (s.2 k 16).toNatClampNeg
theorem mWho_ok {h : Ho} {s : Sh} (hk : Hok h) (hs : Sok h s) {k : Nat} (h1 : k < s.1) : s.2 k 16 = Int32.ofNat (mWho s k) ∧ mWho s k < hn h 0 ∧ mWho s k < 20 := by
  obtain ⟨p, hp, hp20, ep⟩ := (hs.2 k h1).who hk
  unfold mWho
  rw [ep, pN_cl (by omega)]
  exact ⟨rfl, hp, hp20⟩
/-- the head of a sheet, by a law -/
def mHd (h : Ho) (s : Sh) (l k : Nat) : Nat → Int32 := mkH (hP h) (hS h) (hL h) (mWho s k) (mAt s k) l
def mDr (h : Ho) (s : Sh) (l k : Nat) : Int32 := pDrift (mHd h s l k) (pHeld (mHd h s l k))
theorem are_sh {h : Ho} {s : Sh} (hk : Hok h) (hs : Sok h s) {l k : Nat} (hl : l < hn h 2) (h1 : k < s.1) : are h (Int32.ofNat l) (s.2 k 16) (s.2 k 17) l (mWho s k) (mAt s k) := by
  obtain ⟨a1, a2, _⟩ := mWho_ok hk hs h1
  obtain ⟨b1, b2, _⟩ := mAt_ok hk hs h1
  exact ⟨hl, a2, b2, rfl, a1, b1⟩
theorem mHd_r {h : Ho} {s : Sh} (hk : Hok h) (hs : Sok h s) {l k : Nat} (hl : l < hn h 2) (h1 : k < s.1) : pHr (mHd h s l k) := pHr_are (m := (h, s, none, 0, fun _ => 0, 0, fun _ => 0)) hk (are_sh hk hs hl h1)
/-- the class takes a sheet's head -/
theorem s_takeSh (q : cHo σ m.1) (ho : okAll m) {l k : Nat} (hl : l < hn m.1 2) (h1 : k < m.2.1.1) : ∃ σ', Rn G (d + 4) 158 [.ref 24, .ref 3, .int (Int32.ofNat l), .int (m.2.1.2 k 16), .int (m.2.1.2 k 17)] σ = oV σ' ∧ pSame [24] σ σ' ∧ pHc σ' (mHd m.1 m.2.1 l k) := s_takeC q ho.1 (are_sh ho.1 ho.2.1 hl h1)
theorem pHc.settled {H : Nat → Int32} (g : pHc σ H) {x : Int32} : pHc (aSI σ 24 16 x) H := fun k hk => (pSI_of (by omega)).trans (g k hk)
def pOff (a b : Int32) : Int32 := if b ≤ a then a - b else b - a
theorem pOff_comm (a b : Int32) : pOff a b = pOff b a := by
  unfold pOff
  by_cases h : b ≤ a
  · by_cases h2 : a ≤ b
    · rw [Int32.le_antisymm h h2]
    · rw [if_pos h, if_neg h2]
  · rw [if_neg h, if_pos]
    have := pNotLe.mp h
    rw [pLt] at this
    rw [pLe]
    omega
theorem s_offC {a b : Int32} : Rn G (d + 1) 234 [.int a, .int b] σ = oI (pOff a b) σ := by
  rw [e_Rh_apartFrom]
  unfold pOff
  rw [pOI]
theorem s_offM {a b : Int32} : Rn G (d + 1) 240 [.int a, .int b] σ = oI (pOff a b) σ := by
  rw [e_Md_off]
  unfold pOff
  rw [pOI]
theorem s_foretellShown (q : cHo σ m.1) (ho : okAll m) (qs : cSh σ 13 m.2.1) (v : cSv σ m.1 m.2.1) {l : Nat} (hl : l < hn m.1 2) : ∃ σ', Rn G (d + 5) 232 [.ref 0, .int (Int32.ofNat l)] σ = oV σ' ∧ pSame [24, 28] σ σ' ∧ ∀ k, k < m.2.1.1 → mOff m.1 m.2.1 k = -1 → σ'.1 28 k = mDr m.1 m.2.1 l k := by
  have hk := ho.1
  have h60 := ho.2.1.1
  rw [e_Rh_foretellShown]
  obtain ⟨b, ⟨hb1, hb2⟩, e⟩ := pLoopR0 (G := G) (d := d + 4) (M := M_232) (fun i a => (2, [some (.ref 0), some (.int (Int32.ofNat l)), some (.int (Int32.ofNat i))], [], a)) (fun i a => pSame [24, 28] σ a ∧ ∀ k, k < i → mOff m.1 m.2.1 k = -1 → a.1 28 k = mDr m.1 m.2.1 l k) m.2.1.1 σ ⟨pSame.rfl', fun k hk => absurd hk (Nat.not_lt_zero k)⟩ (by
    intro i a hi ⟨ha1, ha2⟩
    have qa := q.ps ha1 (by decide) (by decide) (by decide)
    have qsa := qs.ps ha1 (by decide) (by decide)
    have va := v.ps ha1 (by decide)
    rw [c_Rh_foretellShown_2, qsa.1, if_neg (pGo hi (by omega)), s_counts va h60 hi, pCI, pB0]
    by_cases h1 : mOff m.1 m.2.1 i = -1
    · obtain ⟨σ1, r1, f1, g1⟩ := s_takeSh (G := G) (d := d) qa ho hl hi
      have hr := mHd_r hk ho.2.1 hl hi
      refine ⟨aSI (aSI σ1 24 16 (pHeld (mHd m.1 m.2.1 l i))) 28 i (mDr m.1 m.2.1 l i), ⟨((ha1.trans (f1.mono (by decide))).si (by decide)).si (by decide), ?_⟩, ?_⟩
      · intro k hk h2
        by_cases h3 : k = i
        · subst h3
          exact pSI_at
        · rw [pSI_of h3, pSI_ne (by decide), f1.at (by decide)]
          exact ha2 k (by omega) h2
      · rw [if_pos h1, s_getN (x := 16) (c := 16) qsa h60 hi (by decide) rfl, pCI, s_getN (x := 17) (c := 17) qsa h60 hi (by decide) rfl, pCI, r1, pCV, s_settle g1 hr, pCV, s_drift g1.settled hr, pCI, pSI_at, s_put (r := 28) (n := 60) (i := i) rfl rfl (by omega) (by decide), pCV, pN_s]
        rfl
    · refine ⟨a, ⟨ha1, fun k hk h2 => ?_⟩, by rw [if_neg h1, pN_s]⟩
      by_cases h3 : k = i
      · subst h3
        exact absurd h2 h1
      · exact ha2 k (by omega) h2)
  refine ⟨b, ?_, hb1, hb2⟩
  refine Eq.trans e ?_
  show Lq G (d + 4) M_232 (2, [some (.ref 0), some (.int (Int32.ofNat l)), some (.int (Int32.ofNat m.2.1.1))], [], b) = _
  rw [c_Rh_foretellShown_2, (qs.ps hb1 (by decide) (by decide)).1, if_pos pEnd]
def mFaF (h : Ho) (s : Sh) (l k : Nat) (a : Int32) : Int32 := a + pOff (s.2 k 12) (mDr h s l k)
def mFa (h : Ho) (s : Sh) (l : Nat) : Int32 := (mCl h s).foldl (fun a k => mFaF h s l k a) 0
theorem s_failsTogether (ho : okAll m) (qs : cSh σ 13 m.2.1) (v : cSv σ m.1 m.2.1) {l : Nat} (q28 : ∀ k, k < m.2.1.1 → mOff m.1 m.2.1 k = -1 → σ.1 28 k = mDr m.1 m.2.1 l k) : Rn G (d + 4) 233 [.ref 0] σ = oI (mFa m.1 m.2.1 l) σ := by
  have h60 := ho.2.1.1
  rw [e_Rh_failsTogether]
  have e := pLoop0 (G := G) (d := d + 3) (M := M_233) (fun i (a : Int32) => (4, [some (.ref 0), some (.int a), some (.int (Int32.ofNat i))], [], σ)) (fun k a => if mOff m.1 m.2.1 k = -1 then mFaF m.1 m.2.1 l k a else a) m.2.1.1 0 (by
    intro i a hi
    show Lq G (d + 3) M_233 (4, [some (.ref 0), some (.int a), some (.int (Int32.ofNat i))], [], σ) = Lq G (d + 3) M_233 (4, [some (.ref 0), some (.int (if mOff m.1 m.2.1 i = -1 then mFaF m.1 m.2.1 l i a else a)), some (.int (Int32.ofNat (i + 1)))], [], σ)
    rw [c_Rh_failsTogether_4, qs.1, if_neg (pGo hi (by omega)), s_counts v h60 hi, pCI, pB0]
    by_cases h1 : mOff m.1 m.2.1 i = -1
    · rw [if_pos h1, if_pos h1, s_getN (x := 12) (c := 12) qs h60 hi (by decide) rfl, pCI, s_cell (r := 28) (n := 60) (i := i) rfl rfl (by omega) (by decide), pCI, q28 i hi h1, s_offC, pCI, pN_s]
      rfl
    · rw [if_neg h1, if_neg h1, pN_s])
  rw [pFo_filter (fun k => mOff m.1 m.2.1 k = -1) (mFaF m.1 m.2.1 l)] at e
  refine Eq.trans e ?_
  show Lq G (d + 3) M_233 (4, [some (.ref 0), some (.int (mFa m.1 m.2.1 l)), some (.int (Int32.ofNat m.2.1.1))], [], σ) = _
  rw [c_Rh_failsTogether_4, qs.1, if_pos pEnd]
/-- the reference asks a sheet -/
theorem s_asksSheet (q : rHo σ m.1) (ho : okAll m) (qs : rSh σ 40 53 54 m.2.1) {k : Nat} (h1 : k < m.2.1.1) : ∃ σ', Rn G (d + 2) 227 [.ref 33, .int (Int32.ofNat k)] σ = oV σ' ∧ pSame [50, 51] σ σ' ∧ (∀ l, l < hn m.1 2 → pHm σ' l (mHd m.1 m.2.1 l k)) := by
  have hk := ho.1
  have h60 := ho.2.1.1
  obtain ⟨a1, a2, a3⟩ := mWho_ok hk ho.2.1 h1
  obtain ⟨b1, b2, b3⟩ := mAt_ok hk ho.2.1 h1
  obtain ⟨σ1, r1, f1, g1⟩ := s_asks (G := G) (d := d) (σ := σ) a3 b3
  refine ⟨σ1, ?_, f1, fun l hl => pHm_of ?_ ?_ ?_⟩
  · rw [e_Md_asksSheet, pM17, pA15, pA16, pIx (by omega) (by decide), pIx (by omega) (by decide), (qs k h1).2.1, (qs k h1).2.2.1, a1, b1, r1, pCV]
  · intro j hj
    rw [(g1 j hj).1, q.2.1 _ a2 j hj]
  · intro j hj
    rw [(g1 j hj).2, q.2.2.1 _ b2 j hj]
  · intro j hj
    rw [f1.at (by decide), q.2.2.2.1 l hl j hj]
theorem s_shownBy (q : rHo σ m.1) (ho : okAll m) (qs : rSh σ 40 53 54 m.2.1) {l k : Nat} (hl : l < hn m.1 2) (h1 : k < m.2.1.1) : ∃ σ', Rn G (d + 6) 239 [.ref 33, .int (Int32.ofNat l), .int (Int32.ofNat k)] σ = oI (mDr m.1 m.2.1 l k) σ' ∧ pSame [50, 51] σ σ' := by
  have h6 : l < 6 := by have := ho.1.1.2.2.1; omega
  obtain ⟨σ1, r1, f1, g1⟩ := s_asksSheet (G := G) (d := d + 3) q ho qs h1
  refine ⟨σ1, ?_, f1⟩
  rw [e_Md_shownBy, r1, pCV, s_driftBy h6 (g1 l hl) (mHd_r ho.1 ho.2.1 hl h1), pCI]
  rfl
theorem s_failsM0 (q : rHo σ m.1) (ho : okAll m) (qs : rSh σ 40 53 54 m.2.1) (g : rG σ (mCl m.1 m.2.1)) {l : Nat} (hl : l < hn m.1 2) : ∃ σ', Lq G (d + 6) M_238 (50, [some (.ref 33), some (.int (Int32.ofNat l)), some (.int 0), some (.int 0), some (.int 0), none, none, none], [], σ) = oI (mFa m.1 m.2.1 l) σ' ∧ pSame [50, 51] σ σ' := by
  have h60 := ho.2.1.1
  have hlen := mCl_len (h := m.1) (s := m.2.1)
  obtain ⟨b, ⟨hb1, hb2⟩, e⟩ := pLoopR0 (G := G) (d := d + 6) (M := M_238) (fun i (a : Int32 × aH) => (50, [some (.ref 33), some (.int (Int32.ofNat l)), some (.int 0), some (.int a.1), some (.int (Int32.ofNat i)), none, none, none], [], a.2)) (fun i a => pSame [50, 51] σ a.2 ∧ a.1 = pFo (fun i a => mFaF m.1 m.2.1 l ((mCl m.1 m.2.1).getD i 0) a) i 0 0) (mCl m.1 m.2.1).length (0, σ) ⟨pSame.rfl', rfl⟩ (by
    intro i a hi ⟨ha1, ha2⟩
    have ga := g.ps ha1 (by decide) (by decide)
    have qsa := qs.ps ha1 (by decide)
    obtain ⟨g1, g2⟩ := ga.elem hi
    obtain ⟨σ1, r1, f1⟩ := s_shownBy (G := G) (d := d) (q.ps ha1 (by decide)) ho qsa hl g1
    refine ⟨(mFaF m.1 m.2.1 l ((mCl m.1 m.2.1).getD i 0) a.1, σ1), ⟨ha1.trans f1, ?_⟩, ?_⟩
    · rw [pFo_snoc, Nat.zero_add, ← ha2]
    · show Lq G (d + 6) M_238 (50, [some (.ref 33), some (.int (Int32.ofNat l)), some (.int 0), some (.int a.1), some (.int (Int32.ofNat i)), none, none, none], [], a.2) = Lq G (d + 6) M_238 (50, [some (.ref 33), some (.int (Int32.ofNat l)), some (.int 0), some (.int (mFaF m.1 m.2.1 l ((mCl m.1 m.2.1).getD i 0) a.1)), some (.int (Int32.ofNat (i + 1))), none, none, none], [], σ1)
      rw [c_Md_fails_50, ga.1, if_neg (pGo hi (by omega)), if_pos rfl, pIx (by omega) (by decide), g2, s_shownOf qsa h60 g1, pCI, pIx (by omega) (by decide), g2, r1, pCI, s_offM, pCI, pN_s]
      rfl)
  rw [pFo_list0 (mFaF m.1 m.2.1 l)] at hb2
  have hb2' : b.1 = mFa m.1 m.2.1 l := hb2
  have gb := g.ps hb1 (by decide) (by decide)
  have e' : Lq G (d + 6) M_238 (50, [some (.ref 33), some (.int (Int32.ofNat l)), some (.int 0), some (.int 0), some (.int 0), none, none, none], [], σ) = Lq G (d + 6) M_238 (50, [some (.ref 33), some (.int (Int32.ofNat l)), some (.int 0), some (.int b.1), some (.int (Int32.ofNat (mCl m.1 m.2.1).length)), none, none, none], [], b.2) := e
  refine ⟨b.2, ?_, hb1⟩
  rw [e', c_Md_fails_50, gb.1, if_pos pEnd, c_Md_fails_101, gb.1, hb2', if_pos (Int32.le_refl 0), ite_self]
/-- how two ways go together: 0 where the first is none, 3 where the other is, 1 alike, 2 not -/
def pTri (a b : Int32) : Int32 := if a = 0 then 0 else if b = 0 then 3 else if a = b then 1 else 2
def mFw (h : Ho) (s : Sh) (l i j : Nat) : Int32 := pTri (pWay (mDr h s l i) (mDr h s l j)) (pWay (s.2 i 12) (s.2 j 12))
theorem mFw_swap (h : Ho) (s : Sh) (l i j : Nat) : mFw h s l i j = mFw h s l j i := by
  unfold mFw
  rcases pWay_tri (mDr h s l i) (mDr h s l j) with ⟨a, b⟩ | ⟨a, b⟩ | ⟨a, b⟩ <;> rcases pWay_tri (s.2 i 12) (s.2 j 12) with ⟨c, e⟩ | ⟨c, e⟩ | ⟨c, e⟩ <;> rw [a, b, c, e] <;> decide
def mFcF (h : Ho) (s : Sh) (l : Nat) (x : Int32) (i j : Nat) : Int32 := if s.2 i 17 = s.2 j 17 then (if mFw h s l i j = x then 1 else 0) else 0
def mFcG (h : Ho) (s : Sh) (l : Nat) (x : Int32) (i j : Nat) : Int32 := if mOff h s i = -1 ∧ mOff h s j = -1 then mFcF h s l x i j else 0
theorem mFcF_swap (h : Ho) (s : Sh) (l : Nat) (x : Int32) (i j : Nat) : mFcF h s l x i j = mFcF h s l x j i := by
  unfold mFcF
  rw [mFw_swap h s l i j]
  by_cases h1 : s.2 i 17 = s.2 j 17
  · rw [if_pos h1, if_pos h1.symm]
  · rw [if_neg h1, if_neg (fun h2 => h1 h2.symm)]
theorem s_foretoldWay (qs : cSh σ 13 m.2.1) (h60 : m.2.1.1 ≤ 60) {l i j : Nat} (hi : i < m.2.1.1) (hj : j < m.2.1.1) (ei : σ.1 28 i = mDr m.1 m.2.1 l i) (ej : σ.1 28 j = mDr m.1 m.2.1 l j) : Rn G (d + 3) 236 [.ref 0, .int (Int32.ofNat i), .int (Int32.ofNat j)] σ = oI (mFw m.1 m.2.1 l i j) σ := by
  rw [e_Rh_foretoldWay, s_cell (r := 28) (n := 60) (i := i) rfl rfl (by omega) (by decide), pCI, s_cell (r := 28) (n := 60) (i := j) rfl rfl (by omega) (by decide), pCI, s_wayC, pCI, s_getN (x := 12) (c := 12) qs h60 hi (by decide) rfl, pCI, s_getN (x := 12) (c := 12) qs h60 hj (by decide) rfl, pCI, s_wayC, pCI, ei, ej]
  unfold mFw pTri
  by_cases h1 : pWay (mDr m.1 m.2.1 l i) (mDr m.1 m.2.1 l j) = 0
  · rw [if_pos h1, if_pos h1]
  · rw [if_neg h1, if_neg h1]
    by_cases h2 : pWay (m.2.1.2 i 12) (m.2.1.2 j 12) = 0
    · rw [if_pos h2, if_pos h2]
    · rw [if_neg h2, if_neg h2, pOI]
theorem s_couplesC (ho : okAll m) (qs : cSh σ 13 m.2.1) (v : cSv σ m.1 m.2.1) {l : Nat} (q28 : ∀ k, k < m.2.1.1 → mOff m.1 m.2.1 k = -1 → σ.1 28 k = mDr m.1 m.2.1 l k) {x : Int32} : Rn G (d + 5) 235 [.ref 0, .int x] σ = oI (pCc (mFcG m.1 m.2.1 l x) m.2.1.1) σ := by
  have h60 := ho.2.1.1
  rw [e_Rh_couplesForetold]
  have inner : ∀ (i : Nat) (a : Int32), i < m.2.1.1 → Lq G (d + 4) M_235 (20, [some (.ref 0), some (.int x), some (.int a), some (.int (Int32.ofNat i)), some (.int (Int32.ofNat (i + 1))), none], [], σ) = Lq G (d + 4) M_235 (4, [some (.ref 0), some (.int x), some (.int (a + pS (fun t => mFcG m.1 m.2.1 l x i (i + 1 + t)) (m.2.1.1 - (i + 1)))), some (.int (Int32.ofNat (i + 1))), none, none], [], σ) := by
    intro i a hi
    have e := pLoop (G := G) (d := d + 4) (M := M_235) (fun j (a : Int32) => (20, [some (.ref 0), some (.int x), some (.int a), some (.int (Int32.ofNat i)), some (.int (Int32.ofNat j)), none], [], σ)) (fun j a => a + mFcG m.1 m.2.1 l x i j) m.2.1.1 (by
      intro j a hj
      show Lq G (d + 4) M_235 (20, [some (.ref 0), some (.int x), some (.int a), some (.int (Int32.ofNat i)), some (.int (Int32.ofNat j)), none], [], σ) = Lq G (d + 4) M_235 (20, [some (.ref 0), some (.int x), some (.int (a + mFcG m.1 m.2.1 l x i j)), some (.int (Int32.ofNat i)), some (.int (Int32.ofNat (j + 1))), none], [], σ)
      unfold mFcG mFcF
      rw [c_Rh_couplesForetold_20, qs.1, if_neg (pGo hj (by omega)), s_getN (x := 17) (c := 17) qs h60 hi (by decide) rfl, pCI, s_getN (x := 17) (c := 17) qs h60 hj (by decide) rfl, pCI, pN_s]
      by_cases h0 : m.2.1.2 i 17 = m.2.1.2 j 17
      · rw [if_pos h0, if_neg (show ¬ (1 : Int32) = 0 by decide), s_counts v h60 hi, pCI, pB0]
        by_cases h1 : mOff m.1 m.2.1 i = -1
        · rw [if_pos h1, s_counts v h60 hj, pCI, pB0]
          by_cases h2 : mOff m.1 m.2.1 j = -1
          · rw [if_pos h2, s_foretoldWay qs h60 hi hj (q28 i hi h1) (q28 j hj h2), pCI, if_pos (show mOff m.1 m.2.1 i = -1 ∧ mOff m.1 m.2.1 j = -1 from ⟨h1, h2⟩), if_pos h0]
            by_cases h3 : mFw m.1 m.2.1 l i j = x
            · rw [if_pos h3, if_pos h3]
            · rw [if_neg h3, if_neg h3, Int32.add_zero]
          · rw [if_neg h2, if_neg (fun h => h2 h.2), Int32.add_zero]
        · rw [if_neg h1, if_neg (fun h => h1 h.1), Int32.add_zero]
      · rw [if_neg h0, if_pos (show (0 : Int32) = 0 from rfl), if_neg h0, ite_self, Int32.add_zero]) (m.2.1.1 - (i + 1)) (i + 1) a (by omega)
    rw [pFo_sum] at e
    refine Eq.trans e ?_
    show Lq G (d + 4) M_235 (20, [some (.ref 0), some (.int x), some (.int (a + pS (fun t => mFcG m.1 m.2.1 l x i (i + 1 + t)) (m.2.1.1 - (i + 1)))), some (.int (Int32.ofNat i)), some (.int (Int32.ofNat m.2.1.1)), none], [], σ) = _
    rw [c_Rh_couplesForetold_20, qs.1, if_pos pEnd, pN_s]
  have e := pLoop0 (G := G) (d := d + 4) (M := M_235) (fun i (a : Int32) => (4, [some (.ref 0), some (.int x), some (.int a), some (.int (Int32.ofNat i)), none, none], [], σ)) (fun i a => a + pS (fun t => mFcG m.1 m.2.1 l x i (i + 1 + t)) (m.2.1.1 - (i + 1))) m.2.1.1 0 (by
    intro i a hi
    show Lq G (d + 4) M_235 (4, [some (.ref 0), some (.int x), some (.int a), some (.int (Int32.ofNat i)), none, none], [], σ) = _
    rw [c_Rh_couplesForetold_4, qs.1, if_neg (pGo hi (by omega)), pN_s, inner i a hi])
  rw [pFo_sum0, Int32.zero_add] at e
  refine Eq.trans e ?_
  show Lq G (d + 4) M_235 (4, [some (.ref 0), some (.int x), some (.int (pCc (mFcG m.1 m.2.1 l x) m.2.1.1)), some (.int (Int32.ofNat m.2.1.1)), none, none], [], σ) = _
  rw [c_Rh_couplesForetold_4, qs.1, if_pos pEnd]
theorem s_couplesM (q : rHo σ m.1) (ho : okAll m) (qs : rSh σ 40 53 54 m.2.1) (g : rG σ (mCl m.1 m.2.1)) {l : Nat} (hl : l < hn m.1 2) {x : Int32} (hx : ¬ x ≤ 0) : ∃ σ', Lq G (d + 6) M_238 (101, [some (.ref 33), some (.int (Int32.ofNat l)), some (.int x), some (.int 0), some (.int 0), none, none, none], [], σ) = oI (pCl (mFcF m.1 m.2.1 l x) (mCl m.1 m.2.1)) σ' ∧ pSame [50, 51] σ σ' := by
  have h60 := ho.2.1.1
  have hlen := mCl_len (h := m.1) (s := m.2.1)
  have hx0 : ¬ (0 : Int32) = x := fun e => hx (by rw [← e]; exact Int32.le_refl 0)
  have inner : ∀ (i : Nat) (a : Int32) (σ0 : aH), i < (mCl m.1 m.2.1).length → pSame [50, 51] σ σ0 → ∃ σ', pSame [50, 51] σ σ' ∧ Lq G (d + 6) M_238 (117, [some (.ref 33), some (.int (Int32.ofNat l)), some (.int x), some (.int a), some (.int (Int32.ofNat i)), some (.int 0), none, none], [], σ0) = Lq G (d + 6) M_238 (101, [some (.ref 33), some (.int (Int32.ofNat l)), some (.int x), some (.int (a + pS (fun b => mFcF m.1 m.2.1 l x ((mCl m.1 m.2.1).getD i 0) ((mCl m.1 m.2.1).getD b 0)) i)), some (.int (Int32.ofNat (i + 1))), none, none, none], [], σ') := by
    intro i a σ0 hi hσ0
    obtain ⟨b, ⟨hb1, hb2⟩, e⟩ := pLoopR0 (G := G) (d := d + 6) (M := M_238) (fun j (c : Int32 × aH) => (117, [some (.ref 33), some (.int (Int32.ofNat l)), some (.int x), some (.int c.1), some (.int (Int32.ofNat i)), some (.int (Int32.ofNat j)), none, none], [], c.2)) (fun j c => pSame [50, 51] σ c.2 ∧ c.1 = a + pS (fun b => mFcF m.1 m.2.1 l x ((mCl m.1 m.2.1).getD i 0) ((mCl m.1 m.2.1).getD b 0)) j) i (a, σ0) ⟨hσ0, (Int32.add_zero a).symm⟩ (by
      intro j c hj ⟨hc1, hc2⟩
      have gc := g.ps hc1 (by decide) (by decide)
      have qsc := qs.ps hc1 (by decide)
      have qc := q.ps hc1 (by decide)
      obtain ⟨i1, i2⟩ := gc.elem hi
      obtain ⟨j1, j2⟩ := gc.elem (show j < (mCl m.1 m.2.1).length by omega)
      have fin : ∀ σ', pSame [50, 51] c.2 σ' → ∀ t : Int32, t = mFcF m.1 m.2.1 l x ((mCl m.1 m.2.1).getD i 0) ((mCl m.1 m.2.1).getD j 0) → ∃ b : Int32 × aH, (pSame [50, 51] σ b.2 ∧ b.1 = a + pS (fun b => mFcF m.1 m.2.1 l x ((mCl m.1 m.2.1).getD i 0) ((mCl m.1 m.2.1).getD b 0)) (j + 1)) ∧ Lq G (d + 6) M_238 (117, [some (.ref 33), some (.int (Int32.ofNat l)), some (.int x), some (.int (c.1 + t)), some (.int (Int32.ofNat i)), some (.int (Int32.ofNat (j + 1))), none, none], [], σ') = Lq G (d + 6) M_238 (117, [some (.ref 33), some (.int (Int32.ofNat l)), some (.int x), some (.int b.1), some (.int (Int32.ofNat i)), some (.int (Int32.ofNat (j + 1))), none, none], [], b.2) := by
        intro σ' f t ht
        exact ⟨(c.1 + t, σ'), ⟨hc1.trans f, by rw [pS_succ, ← Int32.add_assoc, ← hc2, ← ht]⟩, rfl⟩
      obtain ⟨σ1, r1, f1⟩ := s_shownBy (G := G) (d := d) qc ho qsc hl i1
      obtain ⟨σ2, r2, f2⟩ := s_shownBy (G := G) (d := d) (qc.ps f1 (by decide)) ho (qsc.ps f1 (by decide)) hl j1
      have f12 := f1.trans f2
      have e56 : σ1.1 56 = c.2.1 56 := f1.at (by decide)
      have e56' : σ2.1 56 = c.2.1 56 := f12.at (by decide)
      have qs2 := qsc.ps f12 (by decide)
      rw [c_Md_fails_117, if_neg (pGo hj (by omega)), pIx (by omega) (by decide), i2, s_inOf qsc h60 i1, pCI, pIx (by omega) (by decide), j2, s_inOf qsc h60 j1, pCI, pN_s]
      by_cases h0 : m.2.1.2 ((mCl m.1 m.2.1).getD i 0) 17 = m.2.1.2 ((mCl m.1 m.2.1).getD j 0) 17
      · have ef : ∀ t : Int32, (if mFw m.1 m.2.1 l ((mCl m.1 m.2.1).getD i 0) ((mCl m.1 m.2.1).getD j 0) = x then 1 else 0) = t → t = mFcF m.1 m.2.1 l x ((mCl m.1 m.2.1).getD i 0) ((mCl m.1 m.2.1).getD j 0) := by
          intro t ht
          unfold mFcF
          rw [if_pos h0, ht]
        rw [if_pos h0, pIx (by omega) (by decide), i2, r1, pCI, pIx (by omega) (by decide), e56, j2, r2, pCI, s_wayM, pCI]
        by_cases h1 : pWay (mDr m.1 m.2.1 l ((mCl m.1 m.2.1).getD i 0)) (mDr m.1 m.2.1 l ((mCl m.1 m.2.1).getD j 0)) = 0
        · obtain ⟨b, hb, hb2⟩ := fin σ2 f12 0 (ef 0 (by unfold mFw pTri; rw [if_pos h1, if_neg hx0]))
          rw [Int32.add_zero] at hb2
          rw [if_pos h1]
          exact ⟨b, hb, hb2⟩
        · rw [if_neg h1, pIx (by omega) (by decide), e56', i2, s_shownOf qs2 h60 i1, pCI, pIx (by omega) (by decide), e56', j2, s_shownOf qs2 h60 j1, pCI, s_wayM, pCI]
          by_cases h2 : pWay (m.2.1.2 ((mCl m.1 m.2.1).getD i 0) 12) (m.2.1.2 ((mCl m.1 m.2.1).getD j 0) 12) = 0
          · rw [if_pos h2]
            by_cases h4 : (3 : Int32) = x
            · rw [if_pos h4]
              exact fin σ2 f12 1 (ef 1 (by unfold mFw pTri; rw [if_neg h1, if_pos h2, if_pos h4]))
            · rw [if_neg h4]
              exact fin σ2 f12 0 (ef 0 (by unfold mFw pTri; rw [if_neg h1, if_pos h2, if_neg h4]))
          · rw [if_neg h2]
            by_cases h3 : pWay (m.2.1.2 ((mCl m.1 m.2.1).getD i 0) 12) (m.2.1.2 ((mCl m.1 m.2.1).getD j 0) 12) = pWay (mDr m.1 m.2.1 l ((mCl m.1 m.2.1).getD i 0)) (mDr m.1 m.2.1 l ((mCl m.1 m.2.1).getD j 0))
            · rw [if_pos h3]
              by_cases h4 : (1 : Int32) = x
              · rw [if_pos h4]
                exact fin σ2 f12 1 (ef 1 (by unfold mFw pTri; rw [if_neg h1, if_neg h2, if_pos h3.symm, if_pos h4]))
              · rw [if_neg h4]
                exact fin σ2 f12 0 (ef 0 (by unfold mFw pTri; rw [if_neg h1, if_neg h2, if_pos h3.symm, if_neg h4]))
            · have h3' : ¬ pWay (mDr m.1 m.2.1 l ((mCl m.1 m.2.1).getD i 0)) (mDr m.1 m.2.1 l ((mCl m.1 m.2.1).getD j 0)) = pWay (m.2.1.2 ((mCl m.1 m.2.1).getD i 0) 12) (m.2.1.2 ((mCl m.1 m.2.1).getD j 0) 12) := fun h => h3 h.symm
              rw [if_neg h3]
              by_cases h4 : (2 : Int32) = x
              · rw [if_pos h4]
                exact fin σ2 f12 1 (ef 1 (by unfold mFw pTri; rw [if_neg h1, if_neg h2, if_neg h3', if_pos h4]))
              · rw [if_neg h4]
                exact fin σ2 f12 0 (ef 0 (by unfold mFw pTri; rw [if_neg h1, if_neg h2, if_neg h3', if_neg h4]))
      · obtain ⟨b, hb, hb2⟩ := fin c.2 pSame.rfl' 0 (by unfold mFcF; rw [if_neg h0])
        rw [Int32.add_zero] at hb2
        rw [if_neg h0]
        exact ⟨b, hb, hb2⟩)
    have e' : Lq G (d + 6) M_238 (117, [some (.ref 33), some (.int (Int32.ofNat l)), some (.int x), some (.int a), some (.int (Int32.ofNat i)), some (.int 0), none, none], [], σ0) = Lq G (d + 6) M_238 (117, [some (.ref 33), some (.int (Int32.ofNat l)), some (.int x), some (.int b.1), some (.int (Int32.ofNat i)), some (.int (Int32.ofNat i)), none, none], [], b.2) := e
    refine ⟨b.2, hb1, ?_⟩
    rw [e', c_Md_fails_117, if_pos pEnd, pN_s, hb2]
  obtain ⟨b, ⟨hb1, hb2⟩, e⟩ := pLoopR0 (G := G) (d := d + 6) (M := M_238) (fun i (a : Int32 × aH) => (101, [some (.ref 33), some (.int (Int32.ofNat l)), some (.int x), some (.int a.1), some (.int (Int32.ofNat i)), none, none, none], [], a.2)) (fun i a => pSame [50, 51] σ a.2 ∧ a.1 = pS (fun a => pS (fun b => mFcF m.1 m.2.1 l x ((mCl m.1 m.2.1).getD a 0) ((mCl m.1 m.2.1).getD b 0)) a) i) (mCl m.1 m.2.1).length (0, σ) ⟨pSame.rfl', rfl⟩ (by
    intro i a hi ⟨ha1, ha2⟩
    obtain ⟨σ1, f1, e1⟩ := inner i a.1 a.2 hi ha1
    refine ⟨(a.1 + pS (fun b => mFcF m.1 m.2.1 l x ((mCl m.1 m.2.1).getD i 0) ((mCl m.1 m.2.1).getD b 0)) i, σ1), ⟨f1, by rw [pS_succ, ← ha2]⟩, ?_⟩
    have ga := g.ps ha1 (by decide) (by decide)
    show Lq G (d + 6) M_238 (101, [some (.ref 33), some (.int (Int32.ofNat l)), some (.int x), some (.int a.1), some (.int (Int32.ofNat i)), none, none, none], [], a.2) = _
    rw [c_Md_fails_101, ga.1, if_neg (pGo hi (by omega)), if_neg hx, e1])
  have gb := g.ps hb1 (by decide) (by decide)
  have e' : Lq G (d + 6) M_238 (101, [some (.ref 33), some (.int (Int32.ofNat l)), some (.int x), some (.int 0), some (.int 0), none, none, none], [], σ) = Lq G (d + 6) M_238 (101, [some (.ref 33), some (.int (Int32.ofNat l)), some (.int x), some (.int b.1), some (.int (Int32.ofNat (mCl m.1 m.2.1).length)), none, none, none], [], b.2) := e
  refine ⟨b.2, ?_, hb1⟩
  rw [e', c_Md_fails_101, gb.1, if_pos pEnd, hb2]
  rfl
theorem rS.ps2 {σ σ' σ'' : aH} (f : rS σ σ') (g : pSame [50, 51] σ' σ'') : rS σ σ'' := f.trans (rS.of g (by decide))
theorem a_fails (ho : okAll m) (x y : Int32) : Ask G 231 238 [.int x, .int y] [(0, 1)] m := by
  have hk := ho.1
  have h6 := hk.1.2.2.1
  have eq : ∀ l y, pCc (mFcG m.1 m.2.1 l y) m.2.1.1 = pCl (mFcF m.1 m.2.1 l y) (mCl m.1 m.2.1) := fun l y => pCouples (fun k => mOff m.1 m.2.1 k = -1) (f := mFcF m.1 m.2.1 l y) (g := mFcG m.1 m.2.1 l y) (fun i j => by
    unfold mFcG
    rw [mFcF_swap m.1 m.2.1 l y j i]) m.2.1.1
  rcases rngI (x := x) (n := hn m.1 2) (by omega) with ⟨l, hl, rfl⟩ | hx
  · rcases rngI (x := y) (n := 4) (by decide) with ⟨w, hw, ey⟩ | hy
    · have n0 : ¬ y < 0 := by rw [ey]; exact pN_n0 (by omega)
      have n3 : ¬ 3 < y := by rw [ey]; exact pLB (c := 3) (b := 3) rfl (by omega) (by decide)
      refine Or.inl ⟨if y = 0 then mFa m.1 m.2.1 l else pCl (mFcF m.1 m.2.1 l y) (mCl m.1 m.2.1), fun σ I => ?_, fun σ I => ?_⟩
      · obtain ⟨σ1, r1, f1, v1⟩ := s_siftI (G := G) (d := 52) I
        obtain ⟨_, ⟨q, qs, _⟩, _⟩ := I
        obtain ⟨σ2, r2, f2, g2⟩ := s_foretellShown (G := G) (d := 54) (q.ps f1 (by decide) (by decide) (by decide)) ho (qs.ps f1 (by decide) (by decide)) v1 hl
        have f12 : pSame [17, 18, 19, 20, 21, 22, 23, 24, 28] σ σ2 := (f1.mono (by decide)).trans (f2.mono (by decide))
        have qs2 := qs.ps f12 (by decide) (by decide)
        have v2 := v1.ps f2 (by decide)
        refine cOkS (σ' := σ2) ?_ f12 (by decide)
        rw [e_Rh_fails, s_hasN (x1 := 2) (k := 2) rfl (by decide) (q.1 2 (by decide)) (by omega) (by omega), pCI, pB0, if_pos hl, if_neg n0, if_neg n3, s_demand1, pXV, r1, pCV, r2, pCV]
        by_cases h0 : y = 0
        · rw [if_pos h0, if_pos h0, s_failsTogether ho qs2 v2 g2, pCI]
        · rw [if_neg h0, if_neg h0, s_couplesC ho qs2 v2 g2, pCI, eq]
      · obtain ⟨σ1, r1, f1, g1, v1⟩ := s_gatherI (G := G) (d := 54) I
        have q1 := I.2.2.1.rs f1
        have qs1 := I.2.2.2.1.1.rs f1
        obtain ⟨_, _, ⟨q, _⟩⟩ := I
        have e3 : σ.1 33 3 = Int32.ofNat (hn m.1 2) := q.1 2 (by decide)
        have hd : Rn G 60 238 [.ref 33, .int (Int32.ofNat l), .int y] σ = Lq G 59 M_238 (50, [some (.ref 33), some (.int (Int32.ofNat l)), some (.int y), some (.int 0), some (.int 0), none, none, none], [], σ1) := by
          rw [e_Md_fails, if_neg (pN_n0 (by omega)), e3, if_neg (pGo hl (by omega)), s_within, pCI, pB0, if_pos ⟨pNotLt.mp n0, pNotLt.mp n3⟩, s_r1, pCI, if_neg (by decide), r1, pCV]
        by_cases h0 : y = 0
        · obtain ⟨σ2, r2, f2⟩ := s_failsM0 (G := G) (d := 53) q1 ho qs1 v1 hl
          refine rOkS (σ' := σ2) ?_ (f1.ps2 f2) ((congrFun (f2.at (by decide)) 0).trans g1)
          rw [hd, if_pos h0, h0, r2]
        · have h1 : ¬ y ≤ 0 := fun h => h0 (Int32.le_antisymm h (pNotLt.mp n0))
          obtain ⟨σ2, r2, f2⟩ := s_couplesM (G := G) (d := 53) q1 ho qs1 v1 hl h1
          refine rOkS (σ' := σ2) ?_ (f1.ps2 f2) ((congrFun (f2.at (by decide)) 0).trans g1)
          rw [hd, if_neg h0, c_Md_fails_50, if_neg h0, ite_self, r2]
    · refine Or.inr ⟨(0, 1), by decide, fun σ I => cExI ?_, fun σ I => rExI (v := 0) ?_⟩
      · obtain ⟨_, ⟨q, _⟩, _⟩ := I
        rw [e_Rh_fails, s_hasN (x1 := 2) (k := 2) rfl (by decide) (q.1 2 (by decide)) (by omega) (by omega), pCI, pB0, if_pos hl, s_demand0, pXVt]
        by_cases h0 : y < 0
        · rw [if_pos h0]
        · rw [if_neg h0, if_pos (pBad (c := 3) (b := 3) rfl (by decide) (hy.resolve_left h0))]
      · obtain ⟨_, _, ⟨q, _⟩⟩ := I
        have e3 : σ.1 33 3 = Int32.ofNat (hn m.1 2) := q.1 2 (by decide)
        rw [e_Md_fails, if_neg (pN_n0 (by omega)), e3, if_neg (pGo hl (by omega)), s_within, pCI, pB0, if_neg (pOut (c := 3) (b := 3) rfl (by decide) hy), s_r0 (by decide), pCI, if_pos rfl]
  · refine Or.inr ⟨(0, 1), by decide, fun σ I => cExI ?_, fun σ I => rExI (v := 0) ?_⟩
    · obtain ⟨_, ⟨q, _⟩, _⟩ := I
      rw [e_Rh_fails, s_hasO (x1 := 2) (k := 2) rfl (by decide) (q.1 2 (by decide)) hx, pCI, if_pos rfl, s_demand0, pXVt]
    · obtain ⟨_, _, ⟨q, _⟩⟩ := I
      have e3 : σ.1 33 3 = Int32.ofNat (hn m.1 2) := q.1 2 (by decide)
      rw [e_Md_fails, e3, s_r0 (by decide), pCI, if_pos rfl]
      by_cases h0 : x < 0
      · rw [if_pos h0]
      · rw [if_neg h0, if_pos (hx.resolve_left h0)]
end PFails
