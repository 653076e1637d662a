/-! ===== drawn ===== -/
theorem pAddSub {v b a : Int32} : v + (b - a) = v + b - a := by
  rw [Int32.sub_eq_add_neg, Int32.sub_eq_add_neg, Int32.add_assoc]
section PDrawn
variable {G : Nat × (Nat → Int32)} {d : Nat} {σ : aH} {m : St}
def dSeed (s : Int32) : Int32 := s * 1103515245 + 12345
def dDr (s n : Int32) : Int32 := ((s >>> ((16 : Int32) &&& 31)) &&& 32767) - ((s >>> ((16 : Int32) &&& 31)) &&& 32767) / n * n
def dA (c : Nat) (sp : Int32) : Int32 := if c = 12 then sp else if c = 13 then 10 else if c = 14 then 5 else 1
def dCl (c : Nat) (v : Int32) : Int32 := if leastC c ≤ v then (if v ≤ mostC c then v else mostC c) else leastC c
def dVal (h : Ho) (H : Nat → Int32) (sp : Int32) (c : Nat) (s : Int32) : Int32 := dCl c (pTell H c (decide (c < hn h 3 ∧ hN h c = true)) + (dDr s (dA c sp + dA c sp + 1) - dA c sp))
theorem lm_le {c : Nat} (hc : c < 16) : leastC c ≤ mostC c := by
  rcases (show c = 0 ∨ c = 1 ∨ c = 2 ∨ c = 3 ∨ c = 4 ∨ c = 5 ∨ c = 6 ∨ c = 7 ∨ c = 8 ∨ c = 9 ∨ c = 10 ∨ c = 11 ∨ c = 12 ∨ c = 13 ∨ c = 14 ∨ c = 15 by omega) with rfl | rfl | rfl | rfl | rfl | rfl | rfl | rfl | rfl | rfl | rfl | rfl | rfl | rfl | rfl | rfl <;> decide
theorem dCl_bd {c : Nat} (hc : c < 16) (v : Int32) : leastC c ≤ dCl c v ∧ dCl c v ≤ mostC c := by
  have h := lm_le hc
  unfold dCl
  by_cases h1 : leastC c ≤ v
  · rw [if_pos h1]
    by_cases h2 : v ≤ mostC c
    · rw [if_pos h2]
      exact ⟨h1, h2⟩
    · rw [if_neg h2]
      exact ⟨h, Int32.le_refl _⟩
  · rw [if_neg h1]
    exact ⟨Int32.le_refl _, h⟩
theorem dA_bd {c : Nat} {sp : Int32} (hs : pBd sp 1 99) : pBd (dA c sp) 1 99 := by
  unfold dA
  split
  · exact hs
  · split
    · exact bd_10
    · split
      · exact ⟨by decide, by decide⟩
      · exact ⟨by decide, by decide⟩
theorem dN_pos {a : Int32} (h : pBd a 1 99) : 0 < a + a + 1 := by
  obtain ⟨a0, a1⟩ := h
  have e1 : (1 : Int32).toInt = 1 := rfl
  have e0 : (0 : Int32).toInt = 0 := rfl
  have e2 : (a + a).toInt = a.toInt + a.toInt := pI_add (by omega) (by omega)
  rw [pLt, e0, pI_add (by rw [e2, e1]; omega) (by rw [e2, e1]; omega), e2, e1]
  omega
theorem s_asideOf {c : Nat} (hc : c < 15) {sp : Int32} : Rn G (d + 1) 213 [.int (Int32.ofNat c), .int sp] σ = oI (dA c sp) σ := by
  rw [e_Rh_asideOf]
  unfold dA
  by_cases h1 : c = 12
  · rw [if_pos ((pEqL (c := 12) (n := 12) rfl (by decide) (by omega)).mpr h1), if_pos h1]
  · rw [if_neg (fun h => h1 ((pEqL (c := 12) (n := 12) rfl (by decide) (by omega)).mp h)), if_neg h1]
    by_cases h2 : c = 13
    · rw [if_pos ((pEqL (c := 13) (n := 13) rfl (by decide) (by omega)).mpr h2), if_pos h2]
    · rw [if_neg (fun h => h2 ((pEqL (c := 13) (n := 13) rfl (by decide) (by omega)).mp h)), if_neg h2]
      by_cases h3 : c = 14
      · rw [if_pos ((pEqL (c := 14) (n := 14) rfl (by decide) (by omega)).mpr h3), if_pos h3]
      · rw [if_neg (fun h => h3 ((pEqL (c := 14) (n := 14) rfl (by decide) (by omega)).mp h)), if_neg h3]
theorem s_drawOf {s n : Int32} (hn : 0 < n) : Rn G (d + 1) 214 [.int s, .int n] σ = oI (dDr s n) σ := by
  have h0 : ¬ n = 0 := fun e => by
    rw [e] at hn
    exact absurd hn (by decide)
  rw [e_Rh_drawOf, if_pos hn]
  unfold aNz
  rw [if_neg h0]
  rfl
theorem s_clamp {c : Nat} (hc : c < 16) {v : Int32} : aCI (Rn G (d + 1) 20 [.int (mostC c), .int v] σ) (fun v14 σ13 => Rn G (d + 1) 19 [.int (leastC c), .int v14] σ13) = oI (dCl c v) σ := by
  have h := lm_le hc
  rw [e_Math_min, pOI, pCI, e_Math_max_0, pOI]
  unfold dCl
  by_cases h1 : leastC c ≤ v
  · rw [if_pos h1]
    by_cases h2 : v ≤ mostC c
    · rw [if_pos h2]
      by_cases h3 : v < mostC c
      · rw [if_pos h3]
        by_cases h4 : leastC c < v
        · rw [if_pos h4]
        · rw [if_neg h4, Int32.le_antisymm h1 (pNotLt.mp h4)]
      · rw [if_neg h3, Int32.le_antisymm h2 (pNotLt.mp h3)]
        by_cases h4 : leastC c < mostC c
        · rw [if_pos h4]
        · rw [if_neg h4, Int32.le_antisymm h (pNotLt.mp h4)]
    · rw [if_neg h2, if_neg (fun h3 => h2 (Int32.le_of_lt h3))]
      by_cases h4 : leastC c < mostC c
      · rw [if_pos h4]
      · rw [if_neg h4, Int32.le_antisymm h (pNotLt.mp h4)]
  · have h2 := pNotLe.mp h1
    rw [if_neg h1, if_pos (Int32.lt_of_lt_of_le h2 h), if_neg (fun h4 => h1 (Int32.le_of_lt h4))]
abbrev Dt : Type := (Nat → Int32) × Int32
def dStep (h : Ho) (H : Nat → Int32) (sp : Int32) (c : Nat) (t : Dt) : Dt := (rowSet t.1 c (dVal h H sp c (dSeed t.2)), dSeed t.2)
def dRow (h : Ho) (H : Nat → Int32) (sp : Int32) (t : Dt) : Dt := dStep h H sp 14 (dStep h H sp 13 (dStep h H sp 12 (pFo (dStep h H sp) (hn h 3) 0 t)))
/-- one column, by the class -/
theorem s_drawStepC (q : cHo σ m.1) (ho : okAll m) {H : Nat → Int32} (g : pHc σ H) (hr : pHr H) (hh : σ.1 24 16 = pHeld H) {k c : Nat} (hk60 : k < 60) (hc : (c < hn m.1 3) ∨ (12 ≤ c ∧ c < 15)) {sp seed : Int32} (hs : pBd sp 1 99) : Lq G (d + 5) M_212 (6, [some (.ref 0), some (.int (Int32.ofNat k)), some (.int sp), none, some (.int seed), some (.int (Int32.ofNat c)), none, none, none], [], σ) = Lq G (d + 5) M_212 (6, [some (.ref 0), some (.int (Int32.ofNat k)), some (.int sp), none, some (.int (dSeed seed)), some (.int (Int32.ofNat (c + 1))), none, none, none], [], aSI σ 14 (18 * k + c) (dVal m.1 H sp c (dSeed seed))) := by
  have hk := ho.1
  have h3 := hk.1.2.2.2.1
  have hc15 : c < 15 := by omega
  have es : seed * 1103515245 + 12345 = dSeed seed := rfl
  have st : ∀ (f : Int32 → aH → Option (aRs × aH)), aCI (Rn G (d + 5) 213 [.int (Int32.ofNat c), .int sp] σ) (fun v2 σ1 => aCI (Rn G (d + 5) 214 [.int (dSeed seed), .int ((v2 + v2) + (1 : Int32))] σ1) fun v4 σ3 => aCI (Rn G (d + 5) 118 [.ref 3, .int (Int32.ofNat c)] σ3) fun v6 σ5 => aCI (Rn G (d + 5) 185 [.ref 24, .int (Int32.ofNat c), .int v6] σ5) fun v8 σ7 => aCI (Rn G (d + 5) 199 [.int (Int32.ofNat c)] σ7) fun v10 σ9 => aCI (Rn G (d + 5) 104 [.int (Int32.ofNat c)] σ9) fun v12 σ11 => aCI (aCI (Rn G (d + 5) 20 [.int v12, .int (v8 + (v4 - v2))] σ11) fun v14 σ13 => Rn G (d + 5) 19 [.int v10, .int v14] σ13) f) = f (dVal m.1 H sp c (dSeed seed)) σ := by
    intro f
    rw [s_asideOf hc15, pCI, s_drawOf (dN_pos (dA_bd hs)), pCI, s_lineSaid q hk (by omega), pCI, s_foretells g hr hh rfl hc15 rfl, pCI, s_least (show c < 16 by omega), pCI, s_most (show c < 16 by omega), pCI, s_clamp (show c < 16 by omega), pCI]
    rfl
  have as : ∀ {r : Option (aRs × aH)} {f : Int32 → aH → Option (aRs × aH)} {g : Int32 → aH → Option (aRs × aH)}, (∀ v σ, r = oI v σ → True) → (∃ v σ, r = oI v σ) → aCI (aCI r f) g = aCI r fun v σ => aCI (f v σ) g := by
    intro r f g _ h
    obtain ⟨v, σ, e⟩ := h
    rw [e, pCI, pCI]
  have mn : ∀ (a b : Int32) (σ : aH), ∃ v σ', Rn G (d + 5) 20 [.int a, .int b] σ = oI v σ' := by
    intro a b σ
    rw [e_Math_min, pOI]
    exact ⟨_, _, rfl⟩
  have st2 := fun f => st f
  simp only [as (fun _ _ _ => trivial) (mn _ _ _)] at st2
  rw [c_Rh_drawSheet_6, if_neg (show ¬ (14 : Int32) < Int32.ofNat c from pLB (c := 14) (b := 14) rfl (by omega) (by decide)), es]
  rcases hc with h | ⟨h, _⟩
  · rw [if_neg (show ¬ (12 : Int32) ≤ Int32.ofNat c from pGoL (c := 12) (n := 12) rfl (by omega) (by decide)), s_hasN (x1 := 3) (k := 3) rfl (by decide) (q.1 3 (by decide)) (by omega) (by omega), pCI, pB0, if_pos h]
    refine Eq.trans (st2 _) ?_
    rw [s_set (k := k) (c := c) rfl rfl (by omega), pCV, pN_s]
  · rw [if_pos (show (12 : Int32) ≤ Int32.ofNat c from (pN_le (a := 12) (by decide) (by omega)).mpr h)]
    refine Eq.trans (st2 _) ?_
    rw [s_set (k := k) (c := c) rfl rfl (by omega), pCV, pN_s]
def cRow (σ : aH) (k : Nat) (r : Nat → Int32) : Prop := ∀ c, c < 18 → σ.1 14 (18 * k + c) = r c
theorem cRow.step {k c : Nat} {t : Dt} {h : Ho} {H : Nat → Int32} {sp : Int32} (g : cRow σ k t.1) : cRow (aSI σ 14 (18 * k + c) (dVal h H sp c (dSeed t.2))) k (dStep h H sp c t).1 := by
  intro e he
  show _ = rowSet t.1 c (dVal h H sp c (dSeed t.2)) e
  by_cases h1 : e = c
  · subst h1
    rw [pSI_at, rowSet_eq]
  · rw [pSI_of (by omega), rowSet_ne h1]
    exact g e he
theorem s_drawSheet (q : cHo σ m.1) (ho : okAll m) {H : Nat → Int32} (g : pHc σ H) (hr : pHr H) (hh : σ.1 24 16 = pHeld H) {k : Nat} (hk60 : k < 60) {sp seed : Int32} (hs : pBd sp 1 99) {r : Nat → Int32} (hrow : cRow σ k r) : ∃ σ', Rn G (d + 6) 212 [.ref 0, .int (Int32.ofNat k), .int sp, .int seed] σ = oI (dRow m.1 H sp (r, seed)).2 σ' ∧ pSame [14] σ σ' ∧ cRow σ' k (dRow m.1 H sp (r, seed)).1 ∧ ∀ j, j < 18 * k → σ'.1 14 j = σ.1 14 j := by
  have hk := ho.1
  have h3 := hk.1.2.2.2.1
  rw [e_Rh_drawSheet]
  have one : ∀ (c : Nat) (t : Dt) (a : aH), ((c < hn m.1 3) ∨ (12 ≤ c ∧ c < 15)) → pSame [14] σ a → cRow a k t.1 → (∀ j, j < 18 * k → a.1 14 j = σ.1 14 j) → ∃ b, (pSame [14] σ b ∧ cRow b k (dStep m.1 H sp c t).1 ∧ ∀ j, j < 18 * k → b.1 14 j = σ.1 14 j) ∧ Lq G (d + 5) M_212 (6, [some (.ref 0), some (.int (Int32.ofNat k)), some (.int sp), none, some (.int t.2), some (.int (Int32.ofNat c)), none, none, none], [], a) = Lq G (d + 5) M_212 (6, [some (.ref 0), some (.int (Int32.ofNat k)), some (.int sp), none, some (.int (dStep m.1 H sp c t).2), some (.int (Int32.ofNat (c + 1))), none, none, none], [], b) := by
    intro c t a hc f gr gj
    refine ⟨aSI a 14 (18 * k + c) (dVal m.1 H sp c (dSeed t.2)), ⟨f.si (by decide), gr.step, fun j hj => by rw [pSI_of (by omega)]; exact gj j hj⟩, ?_⟩
    exact s_drawStepC (q.ps f (by decide) (by decide) (by decide)) ho (fun k hk => by rw [f.at (by decide)]; exact g k hk) hr (by rw [f.at (by decide)]; exact hh) hk60 hc hs
  obtain ⟨b, ⟨hb1, hb2, hb3, hb4⟩, e⟩ := pLoopR0 (G := G) (d := d + 5) (M := M_212) (fun i (a : Dt × aH) => (6, [some (.ref 0), some (.int (Int32.ofNat k)), some (.int sp), none, some (.int a.1.2), some (.int (Int32.ofNat i)), none, none, none], [], a.2)) (fun i a => pSame [14] σ a.2 ∧ cRow a.2 k a.1.1 ∧ (∀ j, j < 18 * k → a.2.1 14 j = σ.1 14 j) ∧ a.1 = pFo (dStep m.1 H sp) i 0 (r, seed)) (hn m.1 3) ((r, seed), σ) ⟨pSame.rfl', hrow, fun _ _ => rfl, rfl⟩ (by
    intro i a hi ⟨ha1, ha2, ha3, ha4⟩
    obtain ⟨b, ⟨hb1, hb2, hb3⟩, e⟩ := one i a.1 a.2 (Or.inl hi) ha1 ha2 ha3
    exact ⟨(dStep m.1 H sp i a.1, b), ⟨hb1, hb2, hb3, by rw [pFo_snoc, Nat.zero_add, ← ha4]⟩, e⟩)
  have e' : Lq G (d + 5) M_212 (6, [some (.ref 0), some (.int (Int32.ofNat k)), some (.int sp), none, some (.int seed), some (.int 0), none, none, none], [], σ) = Lq G (d + 5) M_212 (6, [some (.ref 0), some (.int (Int32.ofNat k)), some (.int sp), none, some (.int b.1.2), some (.int (Int32.ofNat (hn m.1 3))), none, none, none], [], b.2) := e
  have qb := q.ps hb1 (by decide) (by decide) (by decide)
  obtain ⟨_, _, e2⟩ := pLoopR (G := G) (d := d + 5) (M := M_212) (α := Unit) (fun i _ => (6, [some (.ref 0), some (.int (Int32.ofNat k)), some (.int sp), none, some (.int b.1.2), some (.int (Int32.ofNat i)), none, none, none], [], b.2)) (fun i _ => hn m.1 3 ≤ i) 12 (by
    intro i _ hi hr
    refine ⟨(), by omega, ?_⟩
    rw [c_Rh_drawSheet_6, if_neg (show ¬ (14 : Int32) < Int32.ofNat i from pLB (c := 14) (b := 14) rfl (by omega) (by decide)), if_neg (show ¬ (12 : Int32) ≤ Int32.ofNat i from pGoL (c := 12) (n := 12) rfl hi (by decide)), s_hasN (x1 := 3) (k := 3) rfl (by decide) (qb.1 3 (by decide)) (by omega) (by omega), pCI, pB0, if_neg (show ¬ i < hn m.1 3 by omega), pN_s]) (12 - hn m.1 3) (hn m.1 3) () (by omega) (Nat.le_refl _)
  obtain ⟨b1, ⟨f1, g1, j1⟩, s1⟩ := one 12 b.1 b.2 (Or.inr ⟨by decide, by decide⟩) hb1 hb2 hb3
  obtain ⟨b2, ⟨f2, g2, j2⟩, s2⟩ := one 13 (dStep m.1 H sp 12 b.1) b1 (Or.inr ⟨by decide, by decide⟩) f1 g1 j1
  obtain ⟨b3, ⟨f3, g3, j3⟩, s3⟩ := one 14 (dStep m.1 H sp 13 (dStep m.1 H sp 12 b.1)) b2 (Or.inr ⟨by decide, by decide⟩) f2 g2 j2
  have ed : dStep m.1 H sp 14 (dStep m.1 H sp 13 (dStep m.1 H sp 12 b.1)) = dRow m.1 H sp (r, seed) := by
    rw [hb4]
    rfl
  rw [ed] at g3 s3
  refine ⟨b3, ?_, f3, g3, j3⟩
  refine Eq.trans e' (Eq.trans e2 (Eq.trans s1 (Eq.trans s2 (Eq.trans s3 ?_))))
  rw [c_Rh_drawSheet_6, if_pos (show (14 : Int32) < Int32.ofNat (14 + 1) by decide)]
/-! the reference's column -/
theorem isCol.mono {h : Ho} {x : Int32} {c : Nat} (q : isCol h x 3 c) : isCol h x 4 c := by
  rcases q with a | ⟨k, hk, e1, e2⟩
  · exact Or.inl a
  · exact Or.inr ⟨k, by omega, e1, e2⟩
theorem s_draw {n : Int32} (hn : 0 < n) : Rn G (d + 1) 216 [.ref 33, .int n] σ = oI (dDr (dSeed (σ.1 33 48)) n) (aSI σ 33 48 (dSeed (σ.1 33 48))) := by
  have h0 : ¬ n = 0 := fun e => by
    rw [e] at hn
    exact absurd hn (by decide)
  rw [e_Md_draw]
  unfold aNz
  rw [if_neg h0]
  rfl
theorem s_bound {h : Ho} (hk : Hok h) {x v : Int32} {c : Nat} (hc : isCol h x 4 c) : Rn G (d + 2) 217 [.int v, .int x] σ = oI (dCl c v) σ := by
  rw [e_Md_bound, s_leastM hk hc, pCI, s_mostM hk hc, pCI, s_mostM hk hc, pCI, s_leastM hk hc, pCI]
  unfold dCl
  by_cases h1 : leastC c ≤ v
  · rw [if_pos h1, if_pos h1, pOI]
  · rw [if_neg h1, if_neg h1]
/-- all but the reference's sheets, seed and head is as it was -/
def dF (σ σ' : aH) : Prop := pSame [33, 40, 50, 51, 53, 54] σ σ' ∧ ∀ k, k ≠ 0 → k ≠ 12 → k ≠ 48 → σ'.1 33 k = σ.1 33 k
theorem dF.rfl' {σ : aH} : dF σ σ := ⟨pSame.rfl', fun _ _ _ _ => rfl⟩
theorem dF.trans {σ σ' σ'' : aH} (h : dF σ σ') (h2 : dF σ' σ'') : dF σ σ'' := ⟨h.1.trans h2.1, fun k a b c => (h2.2 k a b c).trans (h.2 k a b c)⟩
theorem dF.s33 {σ σ' : aH} (h : dF σ σ') {j : Nat} {x : Int32} (hj : j = 0 ∨ j = 12 ∨ j = 48) : dF σ (aSI σ' 33 j x) := ⟨h.1.si (by decide), fun k a b c => (pSI_of (by omega)).trans (h.2 k a b c)⟩
theorem dF.s40 {σ σ' : aH} (h : dF σ σ') {j : Nat} {x : Int32} : dF σ (aSI σ' 40 j x) := ⟨h.1.si (by decide), fun k a b c => (congrFun (pSI_ne (by decide)) k).trans (h.2 k a b c)⟩
theorem rHo.df {σ σ' : aH} {h : Ho} (q : rHo σ h) (f : dF σ σ') : rHo σ' h := q.same (fun k hk => f.2 _ (by omega) (by omega) (by omega)) (f.1.at (by decide)) (f.1.at (by decide)) (f.1.at (by decide)) (f.1.at (by decide)) (f.1.at (by decide)) (f.1.at (by decide))
theorem pHm.same {σ σ' : aH} {l : Nat} {H : Nat → Int32} (g : pHm σ l H) (h50 : σ'.1 50 = σ.1 50) (h51 : σ'.1 51 = σ.1 51) (h36 : σ'.1 36 = σ.1 36) : pHm σ' l H := by
  unfold pHm
  rw [h50, h51, h36]
  exact g
def rRow (σ : aH) (k : Nat) (r : Nat → Int32) : Prop := ∀ c, c < 15 → σ.1 40 (17 * k + c) = r c
/-- one column, by the reference: told, drawn, bound, set -/
theorem s_drawStepM (q : rHo σ m.1) (ho : okAll m) {H : Nat → Int32} {l : Nat} (hl : l < 6) (g : pHm σ l H) (hr : pHr H) {k c : Nat} (hk60 : k < 60) {x : Int32} (hx : isCol m.1 x 3 c) {sp n a : Int32} (hs : pBd sp 1 99) (ha : a = dA c sp) (hn : n = dA c sp + dA c sp + 1) {t : Dt} (es : σ.1 33 48 = t.2) {f : Int32 → aH → Option (aRs × aH)} : aCI (Rn G (d + 6) 189 [.ref 33, .int (Int32.ofNat l), .int x] σ) (fun v2 σ1 => aCI (Rn G (d + 6) 216 [.ref 33, .int n] σ1) fun v4 σ3 => aCI (Rn G (d + 6) 217 [.int ((v2 + v4) - a), .int x] σ3) f) = f (dVal m.1 H sp c (dSeed t.2)) (aSI σ 33 48 (dSeed t.2)) := by
  rw [s_tellsBy q ho.1 hl g hr hx, pCI, s_draw (by rw [hn]; exact dN_pos (dA_bd hs)), pCI, s_bound ho.1 hx.mono, pCI, es, ← pAddSub, ha, hn]
  rfl
theorem rRow.step {k c : Nat} {t : Dt} {h : Ho} {H : Nat → Int32} {sp : Int32} (g : rRow σ k t.1) : rRow (aSI (aSI σ 33 48 (dSeed t.2)) 40 (17 * k + c) (dVal h H sp c (dSeed t.2))) k (dStep h H sp c t).1 := by
  intro e he
  show _ = rowSet t.1 c (dVal h H sp c (dSeed t.2)) e
  by_cases h1 : e = c
  · subst h1
    rw [pSI_at, rowSet_eq]
  · rw [pSI_of (by omega), rowSet_ne h1, pSI_ne (by decide)]
    exact g e he
theorem s_drawRowM (q : rHo σ m.1) (ho : okAll m) {H : Nat → Int32} {l : Nat} (hl : l < 6) (g : pHm σ l H) (hr : pHr H) {k p s : Nat} (hk60 : k < 60) {sp : Int32} (hs : pBd sp 1 99) {t : Dt} (es : σ.1 33 48 = t.2) (hrow : rRow σ k t.1) : ∃ σ', Lq G (d + 6) M_215 (107, [some (.ref 33), some (.int (Int32.ofNat l)), none, some (.int sp), some (.int (Int32.ofNat p)), some (.int (Int32.ofNat s)), some (.int (Int32.ofNat k)), some (.int 0)], [], σ) = Lq G (d + 6) M_215 (68, [some (.ref 33), some (.int (Int32.ofNat l)), none, some (.int sp), some (.int (Int32.ofNat p)), some (.int (Int32.ofNat (s + 1))), none, none], [], σ') ∧ dF σ σ' ∧ pSame [33, 40] σ σ' ∧ (∀ k, k ≠ 48 → σ'.1 33 k = σ.1 33 k) ∧ σ'.1 33 48 = (dRow m.1 H sp t).2 ∧ rRow σ' k (dRow m.1 H sp t).1 ∧ ∀ j, (j < 17 * k ∨ 17 * k + 15 ≤ j) → σ'.1 40 j = σ.1 40 j := by
  have hk := ho.1
  have h3 := hk.1.2.2.2.1
  let R : Dt → aH → Prop := fun t a => dF σ a ∧ pSame [33, 40] σ a ∧ (∀ k, k ≠ 48 → a.1 33 k = σ.1 33 k) ∧ a.1 33 48 = t.2 ∧ rRow a k t.1 ∧ ∀ j, (j < 17 * k ∨ 17 * k + 15 ≤ j) → a.1 40 j = σ.1 40 j
  have nx : ∀ (c : Nat) (t : Dt) (a : aH), c < 15 → R t a → R (dStep m.1 H sp c t) (aSI (aSI a 33 48 (dSeed t.2)) 40 (17 * k + c) (dVal m.1 H sp c (dSeed t.2))) := by
    intro c t a hc ⟨r1, r2, r3, r4, r5, r6⟩
    refine ⟨(r1.s33 (by decide)).s40, (r2.si (by decide)).si (by decide), ?_, ?_, r5.step, ?_⟩
    · intro k hk
      rw [pSI_ne (by decide), pSI_of hk]
      exact r3 k hk
    · rw [pSI_ne (by decide), pSI_at]
      rfl
    · intro j hj
      rw [pSI_of (by omega), pSI_ne (by decide)]
      exact r6 j hj
  have gm : ∀ a, pSame [33, 40] σ a → pHm a l H := fun a f => g.same (f.at (by decide)) (f.at (by decide)) (f.at (by decide))
  have e4 : ∀ a, dF σ a → a.1 33 4 = Int32.ofNat (hn m.1 3) := fun a f => (f.2 4 (by decide) (by decide) (by decide)).trans (q.1 3 (by decide))
  obtain ⟨b, ⟨hb1, hb2⟩, e⟩ := pLoopR0 (G := G) (d := d + 6) (M := M_215) (fun i (a : Dt × aH) => (107, [some (.ref 33), some (.int (Int32.ofNat l)), none, some (.int sp), some (.int (Int32.ofNat p)), some (.int (Int32.ofNat s)), some (.int (Int32.ofNat k)), some (.int (Int32.ofNat i))], [], a.2)) (fun i a => R a.1 a.2 ∧ a.1 = pFo (dStep m.1 H sp) i 0 t) (hn m.1 3) (t, σ) ⟨⟨dF.rfl', pSame.rfl', fun _ _ => rfl, es, hrow, fun _ _ => rfl⟩, rfl⟩ (by
    intro i a hi ⟨ha1, ha2⟩
    have ia : dA i sp = 1 := by
      unfold dA
      rw [if_neg (by omega), if_neg (by omega), if_neg (by omega)]
    refine ⟨(dStep m.1 H sp i a.1, aSI (aSI a.2 33 48 (dSeed a.1.2)) 40 (17 * k + i) (dVal m.1 H sp i (dSeed a.1.2))), ⟨nx i a.1 a.2 (by omega) ha1, by rw [pFo_snoc, Nat.zero_add, ← ha2]⟩, ?_⟩
    show Lq G (d + 6) M_215 (107, [some (.ref 33), some (.int (Int32.ofNat l)), none, some (.int sp), some (.int (Int32.ofNat p)), some (.int (Int32.ofNat s)), some (.int (Int32.ofNat k)), some (.int (Int32.ofNat i))], [], a.2) = _
    rw [c_Md_drawn_107, e4 a.2 ha1.1, if_neg (pGo hi (by omega))]
    refine Eq.trans (s_drawStepM (d := d) (q.df ha1.1) ho hl (gm a.2 ha1.2.1) hr hk60 (c := i) (Or.inl ⟨hi, rfl⟩) hs ia.symm (by rw [ia]; decide) ha1.2.2.2.1) ?_
    rw [pM17, pA, pIx (by omega) (by decide), pN_s])
  have e' : Lq G (d + 6) M_215 (107, [some (.ref 33), some (.int (Int32.ofNat l)), none, some (.int sp), some (.int (Int32.ofNat p)), some (.int (Int32.ofNat s)), some (.int (Int32.ofNat k)), some (.int 0)], [], σ) = Lq G (d + 6) M_215 (107, [some (.ref 33), some (.int (Int32.ofNat l)), none, some (.int sp), some (.int (Int32.ofNat p)), some (.int (Int32.ofNat s)), some (.int (Int32.ofNat k)), some (.int (Int32.ofNat (hn m.1 3)))], [], b.2) := e
  have R1 := nx 12 b.1 b.2 (by decide) hb1
  have R2 := nx 13 _ _ (by decide) R1
  have R3 := nx 14 _ _ (by decide) R2
  have ed : dStep m.1 H sp 14 (dStep m.1 H sp 13 (dStep m.1 H sp 12 b.1)) = dRow m.1 H sp t := by
    rw [hb2]
    rfl
  have s12 := fun f => s_drawStepM (G := G) (d := d) (q.df hb1.1) ho hl (gm _ hb1.2.1) hr hk60 (x := 20) (c := 12) (Or.inr ⟨0, by decide, rfl, rfl⟩) hs (a := sp) (n := 2 * sp + 1) rfl (by rw [Int32.two_mul]; rfl) hb1.2.2.2.1 (f := f)
  have s13 := fun f => s_drawStepM (G := G) (d := d) (q.df R1.1) ho hl (gm _ R1.2.1) hr hk60 (x := 21) (c := 13) (Or.inr ⟨1, by decide, rfl, rfl⟩) hs (a := 10) (n := 21) rfl rfl R1.2.2.2.1 (f := f)
  have s14 := fun f => s_drawStepM (G := G) (d := d) (q.df R2.1) ho hl (gm _ R2.2.1) hr hk60 (x := 22) (c := 14) (Or.inr ⟨2, by decide, rfl, rfl⟩) hs (a := 5) (n := 11) rfl rfl R2.2.2.2.1 (f := f)
  rw [ed] at R3
  refine ⟨_, ?_, R3⟩
  rw [e', c_Md_drawn_107, e4 b.2 hb1.1, if_pos pEnd]
  refine Eq.trans (s12 _) ?_
  rw [pM17, pA12, pIx (by omega) (by decide)]
  refine Eq.trans (s13 _) ?_
  rw [pA13, pIx (by omega) (by decide)]
  refine Eq.trans (s14 _) ?_
  rw [pA14, pIx (by omega) (by decide), pN_s]
/-! sheets, one by one -/
theorem okT.set {h : Ho} {T : Nat → Int32} {c : Nat} {v : Int32} (q : okT h T) (hc : c < 16) (h1 : leastC c ≤ v) (h2 : v ≤ mostC c) : okT h (rowSet T c v) := by
  have S : Sok h ((1, fun _ => T) : Sh) := ⟨by show 1 ≤ 60; decide, fun _ _ => q⟩
  have e := (S.set (k := 0) (c := c) (by show 0 < 1; decide) hc h1 h2).2 0 (by show 0 < 1; decide)
  exact e
theorem okT.step {h : Ho} {H : Nat → Int32} {sp : Int32} {c : Nat} {t : Dt} (q : okT h t.1) (hc : c < 16) : okT h (dStep h H sp c t).1 := q.set hc (dCl_bd hc _).1 (dCl_bd hc _).2
theorem okT.rows {h : Ho} {H : Nat → Int32} {sp : Int32} {t : Dt} (q : okT h t.1) : ∀ n, n ≤ 12 → okT h (pFo (dStep h H sp) n 0 t).1
  | 0, _ => q
  | n + 1, hn => by
    rw [pFo_snoc, Nat.zero_add]
    exact (okT.rows q n (by omega)).step (by omega)
theorem okT.row {h : Ho} (hk : Hok h) {H : Nat → Int32} {sp : Int32} {t : Dt} (q : okT h t.1) : okT h (dRow h H sp t).1 := (((q.rows (hn h 3) hk.1.2.2.2.1).step (by decide)).step (by decide)).step (by decide)
theorem dRow_hi {h : Ho} (hk : Hok h) {H : Nat → Int32} {sp : Int32} {t : Dt} {e : Nat} (he : 15 ≤ e) : (dRow h H sp t).1 e = t.1 e := by
  have h3 := hk.1.2.2.2.1
  have st : ∀ n, n ≤ 12 → (pFo (dStep h H sp) n 0 t).1 e = t.1 e := by
    intro n
    induction n with
    | zero => intro _; rfl
    | succ n ih =>
      intro hn
      rw [pFo_snoc, Nat.zero_add, ← ih (by omega)]
      exact rowSet_ne (by omega)
  unfold dRow
  rw [← st (hn h 3) h3]
  have a : ∀ c (u : Dt), c < 15 → (dStep h H sp c u).1 e = u.1 e := fun c u hc => rowSet_ne (by omega)
  rw [a 14 _ (by decide), a 13 _ (by decide), a 12 _ (by decide)]
abbrev Ds : Type := Sh × Int32
def dNew (h : Ho) (l p s : Nat) (t : Ds) : Dt := dRow h (mkH (hP h) (hS h) (hL h) p s l) (hL h (5 * l + 2)) (newRow (Int32.ofNat p) (Int32.ofNat s), t.2)
def dAdd (h : Ho) (l p s : Nat) (t : Ds) : Ds := if t.1.1 < 60 then (shAdd t.1 (dNew h l p s t).1, (dNew h l p s t).2) else t
def dIn (h : Ho) (l p : Nat) (t : Ds) : Ds := pFo (dAdd h l p) (hn h 1) 0 t
def dAll (h : Ho) (l : Nat) (seed : Int32) : Ds := pFo (dIn h l) (hn h 0) 0 ((0, fun _ _ => 0), seed)
theorem dAdd_full {h : Ho} {l p : Nat} {t : Ds} (ht : ¬ t.1.1 < 60) : ∀ k i, pFo (dAdd h l p) k i t = t
  | 0, _ => rfl
  | k + 1, i => by
    show pFo (dAdd h l p) k (i + 1) (dAdd h l p i t) = t
    rw [show dAdd h l p i t = t from if_neg ht]
    exact dAdd_full ht k (i + 1)
theorem dAdd_ok {h : Ho} (hk : Hok h) {l p s : Nat} (hp : p < hn h 0) (hs : s < hn h 1) {t : Ds} (ht : Sok h t.1) : Sok h (dAdd h l p s t).1 := by
  unfold dAdd
  by_cases h1 : t.1.1 < 60
  · rw [if_pos h1]
    exact ht.add h1 (okT.row hk (newOk hk hp hs))
  · rw [if_neg h1]
    exact ht
theorem rSh.addR {σ' : aH} {s : Sh} (q : rSh σ 40 53 54 s) {r : Nat → Int32} (h15 : r 15 = 100) (h1 : rRow σ' s.1 r) (h2 : σ'.1 40 (17 * s.1 + 15) = r 16) (h3 : σ'.1 40 (17 * s.1 + 16) = r 17) (h4 : ∀ j, j < 17 * s.1 → σ'.1 40 j = σ.1 40 j) (h5 : σ'.1 54 s.1 = 0) (h6 : ∀ j, j < s.1 → σ'.1 54 j = σ.1 54 j ∧ σ'.1 53 j = σ.1 53 j) : rSh σ' 40 53 54 (shAdd s r) := by
  intro k hk
  have hk' : k < s.1 + 1 := hk
  by_cases e : k = s.1
  · subst e
    have er : (shAdd s r).2 s.1 = r := if_pos rfl
    rw [er]
    refine ⟨h1, h2, h3, Or.inl h5, ?_⟩
    rw [if_pos h5]
    exact h15
  · have er : (shAdd s r).2 k = s.2 k := if_neg e
    rw [er]
    obtain ⟨a1, a2, a3, a4, a5⟩ := q k (by omega)
    obtain ⟨g1, g2⟩ := h6 k (by omega)
    refine ⟨fun j hj => by rw [h4 _ (by omega), a1 j hj], by rw [h4 _ (by omega), a2], by rw [h4 _ (by omega), a3], by rw [g1]; exact a4, ?_⟩
    rw [g1, g2]
    exact a5
/-- the class's sheets of one person -/
theorem s_drawnC_in (q : cHo σ m.1) (ho : okAll m) {l p : Nat} (hl : l < hn m.1 2) (hp : p < hn m.1 0) : ∀ (k i : Nat) (t : Ds) (a : aH), i + k = hn m.1 1 → pSame [13, 14, 24] σ a → cSh a 13 t.1 → Sok m.1 t.1 → ∃ b, (pSame [13, 14, 24] σ b ∧ cSh b 13 (pFo (dAdd m.1 l p) k i t).1 ∧ Sok m.1 (pFo (dAdd m.1 l p) k i t).1) ∧ Lq G (d + 7) M_211 (54, [some (.ref 0), some (.int (Int32.ofNat l)), none, some (.int (Int32.ofNat (hn m.1 0))), some (.int (Int32.ofNat (hn m.1 1))), some (.int t.2), some (.int (Int32.ofNat p)), some (.int (Int32.ofNat i))], [], a) = Lq G (d + 7) M_211 (45, [some (.ref 0), some (.int (Int32.ofNat l)), none, some (.int (Int32.ofNat (hn m.1 0))), some (.int (Int32.ofNat (hn m.1 1))), some (.int (pFo (dAdd m.1 l p) k i t).2), some (.int (Int32.ofNat (p + 1))), none], [], b)
  | 0, i, t, a, hi, fa, qa, sa => by
    have hi : i = hn m.1 1 := hi
    refine ⟨a, ⟨fa, qa, sa⟩, ?_⟩
    rw [c_Rh_drawn_54, hi, if_pos pEnd, pN_s]
    rfl
  | k + 1, i, t, a, hi, fa, qa, sa => by
    have hk := ho.1
    obtain ⟨k0, k1, k2, k3, _⟩ := hk.1
    have h60 := sa.1
    have hi1 : i < hn m.1 1 := by omega
    by_cases h1 : t.1.1 < 60
    · have sp := (hk.2.2.2.1 l hl).2.2.1
      have qh := q.ps fa (by decide) (by decide) (by decide)
      have hr : pHr (mkH (hP m.1) (hS m.1) (hL m.1) p i l) := pHr_of (hk.2.1 p hp) (hk.2.2.1 i hi1) (hk.2.2.2.1 l hl)
      obtain ⟨σ1, r1, f1, g1⟩ := s_takeC (G := G) (d := d + 3) (m := m) qh hk (x := Int32.ofNat l) (y := Int32.ofNat p) (z := Int32.ofNat i) (l := l) (p := p) (s := i) ⟨hl, hp, hi1, rfl, rfl, rfl⟩
      have g2 := g1.settled (x := pHeld (mkH (hP m.1) (hS m.1) (hL m.1) p i l))
      have f2 : pSame [24] a (aSI σ1 24 16 (pHeld (mkH (hP m.1) (hS m.1) (hL m.1) p i l))) := f1.si (by decide)
      have hh : (aSI σ1 24 16 (pHeld (mkH (hP m.1) (hS m.1) (hL m.1) p i l))).1 24 16 = pHeld (mkH (hP m.1) (hS m.1) (hL m.1) p i l) := pSI_at
      have rs := s_settle (G := G) (d := d + 3) g1 hr
      generalize aSI σ1 24 16 (pHeld (mkH (hP m.1) (hS m.1) (hL m.1) p i l)) = σ2 at g2 f2 hh rs
      obtain ⟨σ3, r3, f3, g3, j3⟩ := s_layC (G := G) (d := d + 4) (σ := σ2) h1 (x := Int32.ofNat p) (y := Int32.ofNat i)
      have e2 : σ2.1 13 1 = Int32.ofNat t.1.1 := by rw [f2.at (by decide)]; exact qa.1
      have e3 : σ3.1 13 1 = Int32.ofNat t.1.1 := by rw [f3.at (by decide)]; exact e2
      have f23 : pSame [24, 14] a σ3 := (f2.mono (by decide)).trans (f3.mono (by decide))
      have q3 := qh.ps f23 (by decide) (by decide) (by decide)
      obtain ⟨σ4, r4, f4, g4, j4⟩ := s_drawSheet (G := G) (d := d + 1) (σ := σ3) q3 ho (H := mkH (hP m.1) (hS m.1) (hL m.1) p i l) (fun k hk => by rw [f3.at (by decide)]; exact g2 k hk) hr (by rw [f3.at (by decide)]; exact hh) h1 (seed := t.2) sp (r := newRow (Int32.ofNat p) (Int32.ofNat i)) g3
      have e4 : σ4.1 13 1 = Int32.ofNat t.1.1 := by rw [f4.at (by decide)]; exact e3
      have ea : dAdd m.1 l p i t = (shAdd t.1 (dNew m.1 l p i t).1, (dNew m.1 l p i t).2) := if_pos h1
      have fb : pSame [13, 14, 24] σ (aSI σ4 13 1 (Int32.ofNat (t.1.1 + 1))) := ((fa.trans (f23.mono (by decide))).trans (f4.mono (by decide))).si (by decide)
      have qb : cSh (aSI σ4 13 1 (Int32.ofNat (t.1.1 + 1))) 13 (dAdd m.1 l p i t).1 := by
        rw [ea]
        refine qa.add pSI_at (fun c hc => by rw [pSI_ne (by decide)]; exact g4 c hc) (fun j hj => ?_)
        rw [pSI_ne (by decide), j4 j hj, j3 j (Or.inl hj), f2.at (by decide)]
      obtain ⟨b, hb, e⟩ := s_drawnC_in q ho hl hp k (i + 1) (dAdd m.1 l p i t) (aSI σ4 13 1 (Int32.ofNat (t.1.1 + 1))) (by omega) fb qb (dAdd_ok hk hp hi1 sa)
      refine ⟨b, hb, ?_⟩
      refine Eq.trans ?_ e
      rw [c_Rh_drawn_54, if_neg (pGo hi1 (by omega)), qa.1, if_neg (show ¬ (60 : Int32) ≤ Int32.ofNat t.1.1 from pGoL (c := 60) (n := 60) rfl h1 (by decide)), r1, pCV, rs, pCV, e2, r3, pCV, s_toldL (i := l) (w := 2) (x3 := 2) rfl rfl (by omega) (by decide), pCI, q3.2.2.2.1 l hl 2 (by decide), e3, r4, pCI, e4, pN_s, pN_s, ea]
      rfl
    · have ef := dAdd_full (h := m.1) (l := l) (p := p) h1 (k + 1) i
      refine ⟨a, ⟨fa, by rw [ef]; exact qa, by rw [ef]; exact sa⟩, ?_⟩
      rw [c_Rh_drawn_54, if_neg (pGo hi1 (by omega)), qa.1, if_pos (show (60 : Int32) ≤ Int32.ofNat t.1.1 from (pN_le (a := 60) (by decide) (by omega)).mpr (by omega)), pN_s, ef]
/-- the reference's -/
theorem s_drawnM_in (q : rHo σ m.1) (ho : okAll m) {l p : Nat} (hl : l < hn m.1 2) (hp : p < hn m.1 0) : ∀ (k i : Nat) (t : Ds) (a : aH), i + k = hn m.1 1 → dF σ a → a.1 33 0 = 0 → rSh a 40 53 54 t.1 → a.1 33 12 = Int32.ofNat t.1.1 → a.1 33 48 = t.2 → Sok m.1 t.1 → ∃ b, (dF σ b ∧ b.1 33 0 = 0 ∧ rSh b 40 53 54 (pFo (dAdd m.1 l p) k i t).1 ∧ b.1 33 12 = Int32.ofNat (pFo (dAdd m.1 l p) k i t).1.1 ∧ b.1 33 48 = (pFo (dAdd m.1 l p) k i t).2 ∧ Sok m.1 (pFo (dAdd m.1 l p) k i t).1) ∧ Lq G (d + 6) M_215 (68, [some (.ref 33), some (.int (Int32.ofNat l)), none, some (.int (hL m.1 (5 * l + 2))), some (.int (Int32.ofNat p)), some (.int (Int32.ofNat i)), none, none], [], a) = Lq G (d + 6) M_215 (56, [some (.ref 33), some (.int (Int32.ofNat l)), none, some (.int (hL m.1 (5 * l + 2))), some (.int (Int32.ofNat (p + 1))), none, none, none], [], b)
  | 0, i, t, a, hi, fa, e0, qa, e12, e48, sa => by
    have hi : i = hn m.1 1 := hi
    have e2 : a.1 33 2 = Int32.ofNat (hn m.1 1) := (fa.2 2 (by decide) (by decide) (by decide)).trans (q.1 1 (by decide))
    refine ⟨a, ⟨fa, e0, qa, e12, e48, sa⟩, ?_⟩
    rw [c_Md_drawn_68, e2, hi, if_pos pEnd, pN_s]
  | k + 1, i, t, a, hi, fa, e0, qa, e12, e48, sa => by
    have hk := ho.1
    obtain ⟨k0, k1, k2, k3, _⟩ := hk.1
    have h60 := sa.1
    have hi1 : i < hn m.1 1 := by omega
    have e2 : a.1 33 2 = Int32.ofNat (hn m.1 1) := (fa.2 2 (by decide) (by decide) (by decide)).trans (q.1 1 (by decide))
    by_cases h1 : t.1.1 < 60
    · have sp := (hk.2.2.2.1 l hl).2.2.1
      have hr : pHr (mkH (hP m.1) (hS m.1) (hL m.1) p i l) := pHr_of (hk.2.1 p hp) (hk.2.2.1 i hi1) (hk.2.2.2.1 l hl)
      obtain ⟨σ1, r1, f1, n1, z1, w1, w15, w16, wj, c54, cj⟩ := s_laysM (G := G) (d := d + 5) h1 e12 (x := Int32.ofNat p) (y := Int32.ofNat i)
      obtain ⟨σ2, r2, f2, g2⟩ := s_asks (G := G) (d := d + 5) (σ := σ1) (p := p) (s := i) (by omega) (by omega)
      have d1 : dF σ σ1 := fa.trans ⟨f1.mono (by decide), fun k a b c => n1 k b⟩
      have d2 : dF σ σ2 := d1.trans ⟨f2.mono (by decide), fun k _ _ _ => congrFun (f2.at (by decide)) k⟩
      have q2 := q.df d2
      have q1 := q.df d1
      have gm : pHm σ2 l (mkH (hP m.1) (hS m.1) (hL m.1) p i l) := pHm_of (fun k hk => by rw [(g2 k hk).1, q1.2.1 p hp k hk]) (fun k hk => by rw [(g2 k hk).2, q1.2.2.1 i hi1 k hk]) (fun k hk => by rw [q2.2.2.2.1 l hl k hk])
      have e48' : σ2.1 33 48 = t.2 := by rw [f2.at (by decide), n1 48 (by decide), e48]
      obtain ⟨σ3, r3, d3, f3, z3, s3, g3, j3⟩ := s_drawRowM (G := G) (d := d) (σ := σ2) q2 ho (show l < 6 by omega) gm hr (k := t.1.1) (p := p) (s := i) h1 sp (t := (newRow (Int32.ofNat p) (Int32.ofNat i), t.2)) e48' (fun c hc => by
        rw [f2.at (by decide), w1 c hc]
        exact (if_pos hc).symm)
      have ea : dAdd m.1 l p i t = (shAdd t.1 (dNew m.1 l p i t).1, (dNew m.1 l p i t).2) := if_pos h1
      have hi15 : (dNew m.1 l p i t).1 15 = 100 := (dRow_hi hk (by decide)).trans rfl
      have hi16 : (dNew m.1 l p i t).1 16 = Int32.ofNat p := (dRow_hi hk (by decide)).trans rfl
      have hi17 : (dNew m.1 l p i t).1 17 = Int32.ofNat i := (dRow_hi hk (by decide)).trans rfl
      have e0' : σ3.1 33 0 = 0 := by rw [z3 0 (by decide), f2.at (by decide), n1 0 (by decide), e0]
      have qb : rSh σ3 40 53 54 (dAdd m.1 l p i t).1 := by
        rw [ea]
        refine qa.addR hi15 g3 ?_ ?_ (fun j hj => ?_) ?_ (fun j hj => ?_)
        · rw [j3 _ (Or.inr (by omega)), f2.at (by decide), w15, hi16]
        · rw [j3 _ (Or.inr (by omega)), f2.at (by decide), w16, hi17]
        · rw [j3 j (Or.inl hj), f2.at (by decide), wj j hj]
        · rw [f3.at (by decide), f2.at (by decide), c54]
        · rw [f3.at (by decide), f3.at (by decide), f2.at (by decide), f2.at (by decide)]
          exact cj j hj
      obtain ⟨b, hb, e⟩ := s_drawnM_in q ho hl hp k (i + 1) (dAdd m.1 l p i t) σ3 (by omega) (d2.trans d3) e0' qb (by rw [z3 12 (by decide), f2.at (by decide), z1, ea]; rfl) (by rw [s3, ea]; rfl) (dAdd_ok hk hp hi1 sa)
      refine ⟨b, hb, ?_⟩
      refine Eq.trans ?_ e
      rw [c_Md_drawn_68, e2, if_neg (pGo hi1 (by omega)), e12, if_neg (show ¬ (60 : Int32) ≤ Int32.ofNat t.1.1 from pGoL (c := 60) (n := 60) rfl h1 (by decide)), r1, pCI, r2, pCV, r3]
    · have ef := dAdd_full (h := m.1) (l := l) (p := p) h1 (k + 1) i
      refine ⟨a, ⟨fa, e0, by rw [ef]; exact qa, by rw [ef]; exact e12, by rw [ef]; exact e48, by rw [ef]; exact sa⟩, ?_⟩
      rw [c_Md_drawn_68, e2, if_neg (pGo hi1 (by omega)), e12, if_pos (show (60 : Int32) ≤ Int32.ofNat t.1.1 from (pN_le (a := 60) (by decide) (by omega)).mpr (by omega)), pN_s]
theorem s0_ok {h : Ho} : Sok h ((0, fun _ _ => 0) : Sh) := ⟨Nat.zero_le 60, fun k hk => absurd hk (Nat.not_lt_zero k)⟩
theorem dIn_ok {h : Ho} (hk : Hok h) {l p : Nat} (hp : p < hn h 0) : ∀ (k i : Nat) (t : Ds), i + k ≤ hn h 1 → Sok h t.1 → Sok h (pFo (dAdd h l p) k i t).1
  | 0, _, _, _, ht => ht
  | k + 1, i, t, hi, ht => dIn_ok hk hp k (i + 1) (dAdd h l p i t) (by omega) (dAdd_ok hk hp (by omega) ht)
theorem dAll_ok' {h : Ho} (hk : Hok h) {l : Nat} : ∀ (k i : Nat) (t : Ds), i + k ≤ hn h 0 → Sok h t.1 → Sok h (pFo (dIn h l) k i t).1
  | 0, _, _, _, ht => ht
  | k + 1, i, t, hi, ht => dAll_ok' hk k (i + 1) (dIn h l i t) (by omega) (dIn_ok hk (by omega) (hn h 1) 0 t (by omega) ht)
theorem dAll_ok {h : Ho} (hk : Hok h) {l : Nat} {x : Int32} : Sok h (dAll h l x).1 := dAll_ok' hk (hn h 0) 0 _ (by omega) s0_ok
theorem k_drawn (ho : okAll m) (x1 x2 : Int32) : ∃ m', AskS G 211 215 [.int x1, .int x2] [(0, 1)] m m' := by
  have hk := ho.1
  obtain ⟨k0, k1, k2, k3, _⟩ := hk.1
  rcases rngI (x := x1) (n := hn m.1 2) (by omega) with ⟨l, hl, rfl⟩ | hx
  · have s0 : Sok m.1 ((0, fun _ _ => 0) : Sh) := s0_ok
    refine ⟨mSh m (dAll m.1 l x2).1, ho.sh (dAll_ok hk), Or.inl ⟨Int32.ofNat (dAll m.1 l x2).1.1, fun σ a b => ?_, fun σ a b => ?_⟩⟩
    · have q := a.1
      obtain ⟨c, ⟨hc1, hc2, hc3, hc4⟩, e⟩ := pLoopR0 (G := G) (d := 59) (M := M_211) (fun i (a : Ds × aH) => (45, [some (.ref 0), some (.int (Int32.ofNat l)), none, some (.int (Int32.ofNat (hn m.1 0))), some (.int (Int32.ofNat (hn m.1 1))), some (.int a.1.2), some (.int (Int32.ofNat i)), none], [], a.2)) (fun i a => pSame [13, 14, 24] σ a.2 ∧ cSh a.2 13 a.1.1 ∧ Sok m.1 a.1.1 ∧ a.1 = pFo (dIn m.1 l) i 0 ((0, fun _ _ => 0), x2)) (hn m.1 0) (((0, fun _ _ => 0), x2), aSI σ 13 1 0) ⟨pSame.rfl'.si (by decide), ⟨pSI_at, fun k hk => absurd hk (Nat.not_lt_zero k)⟩, s0, rfl⟩ (by
        intro i c hi ⟨hc1, hc2, hc3, hc4⟩
        obtain ⟨b, ⟨b1, b2, b3⟩, e⟩ := s_drawnC_in (G := G) (d := 52) q ho hl hi (hn m.1 1) 0 c.1 c.2 (Nat.zero_add _) hc1 hc2 hc3
        refine ⟨(dIn m.1 l i c.1, b), ⟨b1, b2, b3, by rw [pFo_snoc, Nat.zero_add, ← hc4]⟩, ?_⟩
        show Lq G 59 M_211 (45, [some (.ref 0), some (.int (Int32.ofNat l)), none, some (.int (Int32.ofNat (hn m.1 0))), some (.int (Int32.ofNat (hn m.1 1))), some (.int c.1.2), some (.int (Int32.ofNat i)), none], [], c.2) = _
        rw [c_Rh_drawn_45, if_neg (pGo hi (by omega))]
        exact e)
      have hc4' : c.1 = dAll m.1 l x2 := hc4
      refine ⟨c.2, ?_, a.sheets hc1 (by decide) (by rw [← hc4']; exact hc2), b.ps hc1 (by decide)⟩
      rw [e_Rh_drawn, s_hasN (x1 := 2) (k := 2) rfl (by decide) (q.1 2 (by decide)) (by omega) (by omega), pCI, if_pos hl, s_demand1, pXV, s_howMany (x := 0) (k := 0) rfl (by decide), pCI, s_howMany (x := 1) (k := 1) rfl (by decide), pCI, pSI_ne (by decide), q.1 0 (by decide), q.1 1 (by decide)]
      refine Eq.trans e ?_
      show Lq G 59 M_211 (45, [some (.ref 0), some (.int (Int32.ofNat l)), none, some (.int (Int32.ofNat (hn m.1 0))), some (.int (Int32.ofNat (hn m.1 1))), some (.int c.1.2), some (.int (Int32.ofNat (hn m.1 0))), none], [], c.2) = _
      rw [c_Rh_drawn_45, if_pos pEnd, hc2.1, hc4']
    · have q := b.1
      have e3 : σ.1 33 3 = Int32.ofNat (hn m.1 2) := q.1 2 (by decide)
      have d0 : dF σ (aSI (aSI (aSI σ 33 0 0) 33 48 x2) 33 12 0) := ((dF.rfl'.s33 (by decide)).s33 (by decide)).s33 (by decide)
      obtain ⟨c, ⟨hc1, hz, hc2, h12, h48, hc3, hc4⟩, e⟩ := pLoopR0 (G := G) (d := 59) (M := M_215) (fun i (a : Ds × aH) => (56, [some (.ref 33), some (.int (Int32.ofNat l)), none, some (.int (hL m.1 (5 * l + 2))), some (.int (Int32.ofNat i)), none, none, none], [], a.2)) (fun i a => dF σ a.2 ∧ a.2.1 33 0 = 0 ∧ rSh a.2 40 53 54 a.1.1 ∧ a.2.1 33 12 = Int32.ofNat a.1.1.1 ∧ a.2.1 33 48 = a.1.2 ∧ Sok m.1 a.1.1 ∧ a.1 = pFo (dIn m.1 l) i 0 ((0, fun _ _ => 0), x2)) (hn m.1 0) (((0, fun _ _ => 0), x2), aSI (aSI (aSI σ 33 0 0) 33 48 x2) 33 12 0) ⟨d0, by rw [pSI_of (by decide), pSI_of (by decide), pSI_at], fun k hk => absurd hk (Nat.not_lt_zero k), pSI_at, by rw [pSI_of (by decide), pSI_at], s0, rfl⟩ (by
        intro i c hi ⟨hc1, hz, hc2, h12, h48, hc3, hc4⟩
        obtain ⟨b, ⟨b1, b2, b3, b4, b5, b6⟩, e⟩ := s_drawnM_in (G := G) (d := 53) q ho hl hi (hn m.1 1) 0 c.1 c.2 (Nat.zero_add _) hc1 hz hc2 h12 h48 hc3
        have e1 : c.2.1 33 1 = Int32.ofNat (hn m.1 0) := (hc1.2 1 (by decide) (by decide) (by decide)).trans (q.1 0 (by decide))
        refine ⟨(dIn m.1 l i c.1, b), ⟨b1, b2, b3, b4, b5, b6, by rw [pFo_snoc, Nat.zero_add, ← hc4]⟩, ?_⟩
        show Lq G 59 M_215 (56, [some (.ref 33), some (.int (Int32.ofNat l)), none, some (.int (hL m.1 (5 * l + 2))), some (.int (Int32.ofNat i)), none, none, none], [], c.2) = _
        rw [c_Md_drawn_56, e1, if_neg (pGo hi (by omega))]
        exact e)
      have hc4' : c.1 = dAll m.1 l x2 := hc4
      have e1 : c.2.1 33 1 = Int32.ofNat (hn m.1 0) := (hc1.2 1 (by decide) (by decide) (by decide)).trans (q.1 0 (by decide))
      refine ⟨c.2, ?_, a.ps hc1.1 (by decide), b.sheets hc1.1 (by decide) (fun k hk => hc1.2 k (by intro e; subst e; exact absurd hk (by decide)) (by intro e; subst e; exact absurd hk (by decide)) (by intro e; subst e; exact absurd hk (by decide))) (by rw [← hc4']; exact hc2) (by rw [← hc4']; exact h12), hz, (hc1.1 63 (by decide)).2⟩
      rw [e_Md_drawn, if_neg (pN_n0 (by omega)), e3, if_neg (pGo hl (by omega)), s_r1, pCI, if_neg (by decide), pM5, pA2, pIx (by omega) (by decide), pSI_ne (by decide), q.2.2.2.1 l hl 2 (by decide)]
      refine Eq.trans e ?_
      show Lq G 59 M_215 (56, [some (.ref 33), some (.int (Int32.ofNat l)), none, some (.int (hL m.1 (5 * l + 2))), some (.int (Int32.ofNat (hn m.1 0))), none, none, none], [], c.2) = _
      rw [c_Md_drawn_56, e1, if_pos pEnd, h12, hc4']
  · refine ⟨m, Ask.toS ho (Or.inr ⟨(0, 1), by decide, fun σ I => cExI ?_, fun σ I => rExI (v := 0) ?_⟩)⟩
    · obtain ⟨_, ⟨q, _⟩, _⟩ := I
      rw [e_Rh_drawn, s_hasO (x1 := 2) (k := 2) rfl (by decide) (q.1 2 (by decide)) hx, pCI, s_demand0, pXVt]
    · obtain ⟨_, _, ⟨q, _⟩⟩ := I
      have e3 : σ.1 33 3 = Int32.ofNat (hn m.1 2) := q.1 2 (by decide)
      rw [e_Md_drawn, e3, s_r0 (by decide), pCI, if_pos rfl]
      by_cases h0 : x1 < 0
      · rw [if_pos h0]
      · rw [if_neg h0, if_pos (hx.resolve_left h0)]
end PDrawn
