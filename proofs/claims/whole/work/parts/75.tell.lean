/-! ===== tell, value ===== -/
section PTell
variable {G : Nat × (Nat → Int32)} {d : Nat} {σ : aH} {m : St}
def leastC (c : Nat) : Int32 := if c < 12 then -3 else if c = 12 then -999 else if c = 15 then -50 else 0
def mostC (c : Nat) : Int32 := if c < 12 then 3 else if c = 12 then 999 else if c = 13 then 100 else if c = 14 then 601 else 50
theorem s_least {c : Nat} (hc : c < 16) : Rn G (d + 2) 199 [.int (Int32.ofNat c)] σ = oI (leastC c) σ := by
  rw [e_Rh_Sheets_least, s_cellC (r := 68) (n := 16) (i := c) (g := fun k => ([-3, -3, -3, -3, -3, -3, -3, -3, -3, -3, -3, -3, -999, 0, 0, -50] : List Int32).getD k 0) rfl rfl hc (by decide), pCI]
  rcases (show c = 0 ∨ c = 1 ∨ c = 2 ∨ c = 3 ∨ c = 4 ∨ c = 5 ∨ c = 6 ∨ c = 7 ∨ c = 8 ∨ c = 9 ∨ c = 10 ∨ c = 11 ∨ c = 12 ∨ c = 13 ∨ c = 14 ∨ c = 15 by omega) with rfl | rfl | rfl | rfl | rfl | rfl | rfl | rfl | rfl | rfl | rfl | rfl | rfl | rfl | rfl | rfl <;> rfl
theorem s_most {c : Nat} (hc : c < 16) : Rn G (d + 2) 104 [.int (Int32.ofNat c)] σ = oI (mostC c) σ := by
  rw [e_Rh_Sheets_most, s_cellC (r := 69) (n := 16) (i := c) (g := fun k => ([3, 3, 3, 3, 3, 3, 3, 3, 3, 3, 3, 3, 999, 100, 601, 50] : List Int32).getD k 0) rfl rfl hc (by decide), pCI]
  rcases (show c = 0 ∨ c = 1 ∨ c = 2 ∨ c = 3 ∨ c = 4 ∨ c = 5 ∨ c = 6 ∨ c = 7 ∨ c = 8 ∨ c = 9 ∨ c = 10 ∨ c = 11 ∨ c = 12 ∨ c = 13 ∨ c = 14 ∨ c = 15 by omega) with rfl | rfl | rfl | rfl | rfl | rfl | rfl | rfl | rfl | rfl | rfl | rfl | rfl | rfl | rfl | rfl <;> rfl
theorem s_leastM {h : Ho} (hk : Hok h) {x : Int32} {c : Nat} (hc : isCol h x 4 c) : Rn G (d + 1) 203 [.int x] σ = oI (leastC c) σ := by
  have h3 := hk.1.2.2.2.1
  rw [e_Md_leastOf]
  rcases hc with ⟨h1, rfl⟩ | ⟨k, h1, rfl, rfl⟩
  · rw [if_neg (pGoL (c := 20) (n := 20) rfl (by omega) (by decide))]
    unfold leastC
    rw [if_pos (show c < 12 by omega)]
  · rcases (show k = 0 ∨ k = 1 ∨ k = 2 ∨ k = 3 by omega) with rfl | rfl | rfl | rfl
    · rw [if_pos (by decide), if_pos (by decide)]; rfl
    · rw [if_pos (by decide), if_neg (by decide), if_neg (by decide)]; rfl
    · rw [if_pos (by decide), if_neg (by decide), if_neg (by decide)]; rfl
    · rw [if_pos (by decide), if_neg (by decide), if_pos (by decide)]; rfl
theorem s_mostM {h : Ho} (hk : Hok h) {x : Int32} {c : Nat} (hc : isCol h x 4 c) : Rn G (d + 1) 204 [.int x] σ = oI (mostC c) σ := by
  have h3 := hk.1.2.2.2.1
  rw [e_Md_mostOf]
  rcases hc with ⟨h1, rfl⟩ | ⟨k, h1, rfl, rfl⟩
  · rw [if_neg (pGoL (c := 20) (n := 20) rfl (by omega) (by decide))]
    unfold mostC
    rw [if_pos (show c < 12 by omega)]
  · rcases (show k = 0 ∨ k = 1 ∨ k = 2 ∨ k = 3 by omega) with rfl | rfl | rfl | rfl
    · rw [if_pos (by decide), if_pos (by decide)]; rfl
    · rw [if_pos (by decide), if_neg (by decide), if_pos (by decide)]; rfl
    · rw [if_pos (by decide), if_neg (by decide), if_neg (by decide), if_pos (by decide)]; rfl
    · rw [if_pos (by decide), if_neg (by decide), if_neg (by decide), if_neg (by decide)]; rfl
theorem s_hasSh {s : Sh} (q : σ.1 13 1 = Int32.ofNat s.1) (h60 : s.1 ≤ 60) {k : Nat} (hk : k < s.1) : Rn G (d + 1) 198 [.ref 13, .int (Int32.ofNat k)] σ = oI 1 σ := by
  rw [s_hasS q, if_pos ⟨pN_0 (by omega), pGo' hk (by omega)⟩]
theorem s_hasShO {n : Nat} {x : Int32} (q : σ.1 13 1 = Int32.ofNat n) (h : x < 0 ∨ Int32.ofNat n ≤ x) : Rn G (d + 1) 198 [.ref 13, .int x] σ = oI 0 σ := by
  rw [s_hasS q, if_neg]
  intro h1
  rcases h with h | h
  · exact absurd h (pNotLt.mpr h1.1)
  · exact absurd h1.2 (pNotLt.mpr h)
theorem s_isSheet (q : σ.1 33 12 = Int32.ofNat m.2.1.1) (h60 : m.2.1.1 ≤ 60) {k : Nat} (hk : k < m.2.1.1) : Rn G (d + 2) 201 [.ref 33, .int (Int32.ofNat k)] σ = oI 1 (aSI σ 33 0 0) := by
  rw [e_Md_isSheet, q, if_neg (pN_n0 (by omega)), if_neg (pGo hk (by omega)), s_r1, pCI]
  rfl
theorem s_isSheetO {n : Nat} {x : Int32} (q : σ.1 33 12 = Int32.ofNat n) (h : x < 0 ∨ Int32.ofNat n ≤ x) : Rn G (d + 2) 201 [.ref 33, .int x] σ = oI 0 (aSI σ 33 0 1) := by
  rw [e_Md_isSheet, q, s_r0 (by decide), pCI]
  by_cases h0 : x < 0
  · rw [if_pos h0]
    rfl
  · rw [if_neg h0, if_pos (h.resolve_left h0)]
    rfl
theorem s_isWhat {h : Ho} (hk : Hok h) (q4 : σ.1 33 4 = Int32.ofNat (hn h 3)) (q0 : σ.1 33 0 = 0) {x : Int32} {c : Nat} (hc : isCol h x 4 c) : Rn G (d + 2) 202 [.ref 33, .int x] σ = oI 1 σ := by
  have h3 := hk.1.2.2.2.1
  rw [e_Md_isWhat, q4]
  rcases hc with ⟨h1, rfl⟩ | ⟨k, h1, rfl, rfl⟩
  · rw [if_neg (pN_n0 (by omega)), if_pos (pGo' h1 (by omega)), s_right1 q0, pCI]
    rfl
  · rw [if_neg (pN_n0 (by omega)), if_neg (fun h => absurd ((pN_lt (by omega) (by omega)).mp h) (by omega)), s_within, pCI, pB0, if_pos ⟨show (20 : Int32) ≤ Int32.ofNat (20 + k) from (pN_le (a := 20) (by decide) (by omega)).mpr (by omega), pLe' (c := 23) (b := 23) rfl (by omega) (by decide)⟩, s_right1 q0, pCI]
    rfl
theorem s_isWhatO {h : Ho} (hk : Hok h) (q4 : σ.1 33 4 = Int32.ofNat (hn h 3)) (q0 : σ.1 33 0 = 0) {x : Int32} (hw : (x < 0 ∨ Int32.ofNat (hn h 3) ≤ x) ∧ (x < 20 ∨ Int32.ofNat (20 + 4) ≤ x)) : Rn G (d + 2) 202 [.ref 33, .int x] σ = oI 0 (aSI σ 33 0 1) := by
  have nw : ¬ ((20 : Int32) ≤ x ∧ x ≤ 23) := by
    intro h
    rcases hw.2 with h1 | h1
    · exact absurd h1 (pNotLt.mpr h.1)
    · exact absurd (pBad (c := 23) (b := 23) rfl (by decide) h1) (pNotLt.mpr h.2)
  rw [e_Md_isWhat, q4, s_within, pCI, pB0, if_neg nw, s_right0 q0 (by decide), pCI]
  by_cases h0 : x < 0
  · rw [if_pos h0]
    rfl
  · rw [if_neg h0, if_neg (pNotLt.mpr (hw.1.resolve_left h0))]
    rfl
/-- a column of a row -/
def rowSet (r : Nat → Int32) (c : Nat) (v : Int32) : Nat → Int32 := fun e => if e = c then v else r e
theorem rowSet_eq {r : Nat → Int32} {c : Nat} {v : Int32} : rowSet r c v c = v := if_pos rfl
theorem rowSet_ne {r : Nat → Int32} {c e : Nat} {v : Int32} (h : e ≠ c) : rowSet r c v e = r e := if_neg h
/-- a sheet's column is told -/
def shSet (s : Sh) (k c : Nat) (v : Int32) : Sh := (s.1, fun j => if j = k then rowSet (s.2 k) c v else s.2 j)
theorem Sok.set {h : Ho} {s : Sh} (q : Sok h s) {k c : Nat} (hk : k < s.1) (hc : c < 16) {v : Int32} (h1 : leastC c ≤ v) (h2 : v ≤ mostC c) : Sok h (shSet s k c v) := by
  refine ⟨q.1, fun j hj => ?_⟩
  show okT h (if j = k then rowSet (s.2 k) c v else s.2 j)
  by_cases e : j = k
  · rw [if_pos e]
    obtain ⟨a1, a2, a3, a4, a5, a6, a7⟩ := q.2 k hk
    have l1 := pLe.mp h1
    have l2 := pLe.mp h2
    refine ⟨?_, ?_, fun c' hc' => ?_, ?_, ?_, ?_, ?_⟩
    · rw [rowSet_ne (by omega)]; exact a1
    · rw [rowSet_ne (by omega)]; exact a2
    · by_cases e2 : c' = c
      · subst e2
        rw [rowSet_eq]
        unfold leastC at l1
        unfold mostC at l2
        rw [if_pos hc'] at l1 l2
        exact ⟨l1, l2⟩
      · rw [rowSet_ne e2]; exact a3 c' hc'
    · by_cases e2 : 12 = c
      · subst e2
        rw [rowSet_eq]
        exact ⟨l1, l2⟩
      · rw [rowSet_ne e2]; exact a4
    · by_cases e2 : 13 = c
      · subst e2
        rw [rowSet_eq]
        exact ⟨l1, l2⟩
      · rw [rowSet_ne e2]; exact a5
    · by_cases e2 : 14 = c
      · subst e2
        rw [rowSet_eq]
        exact ⟨l1, l2⟩
      · rw [rowSet_ne e2]; exact a6
    · by_cases e2 : 15 = c
      · subst e2
        rw [rowSet_eq]
        exact Or.inr ⟨l1, l2⟩
      · rw [rowSet_ne e2]; exact a7
  · rw [if_neg e]
    exact q.2 j hj
theorem cSh.set {s : Sh} (q : cSh σ 13 s) (h60 : s.1 ≤ 60) {k c : Nat} (hk : k < s.1) (hc : c < 18) {v : Int32} : cSh (aSI σ 14 (18 * k + c) v) 13 (shSet s k c v) := by
  refine ⟨by rw [pSI_ne (by decide)]; exact q.1, fun j hj e he => ?_⟩
  show _ = (if j = k then rowSet (s.2 k) c v else s.2 j) e
  by_cases h : j = k
  · subst h
    rw [if_pos rfl]
    by_cases h2 : e = c
    · subst h2
      rw [pSI_at, rowSet_eq]
    · rw [pSI_of (by omega), rowSet_ne h2]
      exact q.2 j hj e he
  · rw [if_neg h, pSI_of (by omega)]
    exact q.2 j hj e he
theorem rSh.set {s : Sh} (q : rSh σ 40 53 54 s) {k c : Nat} (hk : k < s.1) (hc : c < 15) {v : Int32} : rSh (aSI σ 40 (17 * k + c) v) 40 53 54 (shSet s k c v) := by
  intro j hj
  obtain ⟨a1, a2, a3, a4, a5⟩ := q j hj
  by_cases h : j = k
  · subst h
    have e : (shSet s j c v).2 j = rowSet (s.2 j) c v := if_pos rfl
    rw [e]
    refine ⟨fun i hi => ?_, ?_, ?_, ?_, ?_⟩
    · by_cases h2 : i = c
      · subst h2
        rw [pSI_at, rowSet_eq]
      · rw [pSI_of (by omega), rowSet_ne h2]
        exact a1 i hi
    · rw [pSI_of (by omega), rowSet_ne (by omega)]; exact a2
    · rw [pSI_of (by omega), rowSet_ne (by omega)]; exact a3
    · rw [pSI_ne (by decide)]; exact a4
    · rw [pSI_ne (by decide), pSI_ne (by decide), rowSet_ne (show 15 ≠ c by omega)]; exact a5
  · have e : (shSet s k c v).2 j = s.2 j := if_neg h
    rw [e]
    refine ⟨fun i hi => ?_, ?_, ?_, ?_, ?_⟩
    · rw [pSI_of (by omega)]; exact a1 i hi
    · rw [pSI_of (by omega)]; exact a2
    · rw [pSI_of (by omega)]; exact a3
    · rw [pSI_ne (by decide)]; exact a4
    · rw [pSI_ne (by decide), pSI_ne (by decide)]; exact a5
theorem rSh.cold {s : Sh} (q : rSh σ 40 53 54 s) {k : Nat} (hk : k < s.1) {v : Int32} (hv : v ≠ 100) : rSh (aSI (aSI σ 53 k v) 54 k 1) 40 53 54 (shSet s k 15 v) := by
  intro j hj
  obtain ⟨a1, a2, a3, a4, a5⟩ := q j hj
  rw [pSI_ne (by decide), pSI_ne (by decide)]
  by_cases h : j = k
  · subst h
    have e : (shSet s j 15 v).2 j = rowSet (s.2 j) 15 v := if_pos rfl
    rw [e]
    refine ⟨fun i hi => ?_, ?_, ?_, ?_, ?_⟩
    · rw [rowSet_ne (by omega)]; exact a1 i hi
    · rw [rowSet_ne (by decide)]; exact a2
    · rw [rowSet_ne (by decide)]; exact a3
    · rw [pSI_at]; exact Or.inr rfl
    · rw [pSI_at, if_neg (by decide), pSI_ne (by decide), pSI_at, rowSet_eq]
      exact ⟨rfl, hv⟩
  · have e : (shSet s k 15 v).2 j = s.2 j := if_neg h
    rw [e, pSI_of h, pSI_ne (by decide), pSI_ne (by decide), pSI_of h]
    exact ⟨a1, a2, a3, a4, a5⟩
theorem isCol.lt {h : Ho} (hk : Hok h) {x : Int32} {c : Nat} (hc : isCol h x 4 c) : c < 16 := by
  have h3 := hk.1.2.2.2.1
  rcases hc with ⟨h1, _⟩ | ⟨k, h1, h2, _⟩ <;> omega
theorem c_tellOk (q : cAll σ m) (ho : okAll m) {k c : Nat} {x v : Int32} (hk : k < m.2.1.1) (hc : isCol m.1 x 4 c) : Rn G 60 197 [.ref 0, .int (Int32.ofNat k), .int x, .int v] σ = if leastC c ≤ v ∧ v ≤ mostC c then oI 1 (aSI σ 14 (18 * k + c) v) else oI 0 (aSI σ 27 1 (σ.1 27 1 + 1)) := by
  have h60 := ho.2.1.1
  have hl := hc.lt ho.1
  rw [e_Rh_tell, s_columnOf (l := 23) (n := 4) q.1 ho.1 (by decide) rfl hc, pCI, s_hasSh q.2.1.1 h60 hk, pCI, if_neg (by decide), if_neg (pN_n0 (by omega)), s_demand1, pXV, s_least hl, pCI, s_refuse (x := 1) (w := 1) rfl (by decide), pCV, s_most hl, pCI, s_set (k := k) (c := c) rfl rfl (by omega), pCV]
  by_cases h1 : v < leastC c
  · rw [if_pos h1, if_neg (fun h => absurd h1 (pNotLt.mpr h.1))]
  · rw [if_neg h1]
    by_cases h2 : v ≤ mostC c
    · rw [if_pos h2, if_pos ⟨pNotLt.mp h1, h2⟩]
    · rw [if_neg h2, s_refuse (x := 1) (w := 1) rfl (by decide), pCV, if_neg (fun h => h2 h.2)]
theorem k_tell (ho : okAll m) (x y z : Int32) : ∃ m', AskS G 197 200 [.int x, .int y, .int z] [(0, 1)] m m' := by
  have hk := ho.1
  have h3 := hk.1.2.2.2.1
  have h60 := ho.2.1.1
  rcases rngI (x := x) (n := m.2.1.1) (by omega) with ⟨k, hks, rfl⟩ | hx
  · rcases colI hk y 4 (by decide) with ⟨c, hc⟩ | hw
    · have hl := hc.lt hk
      have ref : ∀ σ, rAll σ m → Rn G 60 200 [.ref 33, .int (Int32.ofNat k), .int y, .int z] σ = if leastC c ≤ z ∧ z ≤ mostC c then (if y = 23 then oI 1 (aSI (aSI (aSI σ 33 0 0) 53 k z) 54 k 1) else aCI (Rn G 59 205 [.int y] (aSI σ 33 0 0)) fun v14 σ13 => aIx (Int32.ofNat (17 * k) + v14) 1020 fun j15 => oI 1 (aSI σ13 40 j15 z)) else oI 0 (aSI (aSI σ 33 0 0) 52 1 ((aSI σ 33 0 0).1 52 1 + 1)) := by
        intro σ b
        have e4 : (aSI σ 33 0 0).1 33 4 = Int32.ofNat (hn m.1 3) := (pSI_of (by decide)).trans (b.1.1 3 (by decide))
        rw [e_Md_tell, s_isSheet b.2.1.2 h60 hks, pCI, if_neg (by decide), s_isWhat hk e4 pSI_at hc, pCI, if_neg (by decide), s_leastM hk hc, pCI, s_mostM hk hc, pCI, s_within, pCI, pB0, pIx (by omega) (by decide), pIx (by omega) (by decide), pM17]
      by_cases hv : leastC c ≤ z ∧ z ≤ mostC c
      · refine ⟨mSh m (shSet m.2.1 k c z), ho.sh (ho.2.1.set hks hl hv.1 hv.2), Or.inl ⟨1, fun σ a b => ?_, fun σ a b => ?_⟩⟩
        · have f : pSame [14] σ (aSI σ 14 (18 * k + c) z) := pSame.rfl'.si (by decide)
          exact ⟨_, by rw [c_tellOk a ho hks hc, if_pos hv], a.sheets f (by decide) (a.2.1.set h60 hks (by omega)), b.ps f (by decide)⟩
        · have b0 := b.k (K.rfl'.s33 (j := 0) (x := 0) (by decide))
          by_cases hc15 : c = 15
          · subst hc15
            have ey : y = 23 := by
              rcases hc with ⟨h1, _⟩ | ⟨k', h1, h2, h4⟩
              · omega
              · rw [h4, show k' = 3 by omega]
                rfl
            have hz : z ≠ 100 := by
              intro e
              subst e
              exact absurd hv.2 (by decide)
            have f : pSame [33, 53, 54] σ (aSI (aSI (aSI σ 33 0 0) 53 k z) 54 k 1) := ((pSame.rfl'.si (by decide)).si (by decide)).si (by decide)
            refine ⟨_, by rw [ref σ b, if_pos hv, if_pos ey], a.ps f (by decide), b.sheets f (by decide) (fun j hj => ?_) (b0.2.1.1.cold hks hz) ?_, ?_, (f 63 (by decide)).2⟩
            · rw [pSI_ne (by decide), pSI_ne (by decide), pSI_of (by intro e; subst e; exact absurd hj (by decide))]
            · rw [pSI_ne (by decide), pSI_ne (by decide)]
              exact b0.2.1.2
            · rw [pSI_ne (by decide), pSI_ne (by decide), pSI_at]
          · have ep : ¬ y = 23 ∧ Rn G 59 205 [.int y] (aSI σ 33 0 0) = oI (Int32.ofNat c) (aSI σ 33 0 0) := by
              rw [e_Md_placeOf]
              rcases hc with ⟨h1, rfl⟩ | ⟨k', h1, h2, rfl⟩
              · exact ⟨fun h => absurd ((pEqL (c := 23) (n := 23) rfl (by decide) (by omega)).mp h) (by omega), by rw [if_neg (pGoL (c := 20) (n := 20) rfl (by omega) (by decide))]⟩
              · refine ⟨fun h => absurd ((pEqL (c := 23) (n := 23) rfl (by decide) (by omega)).mp h) (by omega), ?_⟩
                rw [if_pos (show (20 : Int32) ≤ Int32.ofNat (20 + k') from (pN_le (a := 20) (by decide) (by omega)).mpr (by omega)), h2]
                rcases (show k' = 0 ∨ k' = 1 ∨ k' = 2 by omega) with rfl | rfl | rfl <;> rfl
            have f : pSame [33, 40] σ (aSI (aSI σ 33 0 0) 40 (17 * k + c) z) := (pSame.rfl'.si (by decide)).si (by decide)
            refine ⟨aSI (aSI σ 33 0 0) 40 (17 * k + c) z, ?_, a.ps f (by decide), b.sheets f (by decide) (fun j hj => ?_) (b0.2.1.1.set hks (by omega)) ?_, ?_, (f 63 (by decide)).2⟩
            · rw [ref σ b, if_pos hv, if_neg ep.1, ep.2, pCI, pA, pIx (by omega) (by decide)]
            · rw [pSI_ne (by decide), pSI_of (by intro e; subst e; exact absurd hj (by decide))]
            · rw [pSI_ne (by decide)]
              exact b0.2.1.2
            · rw [pSI_ne (by decide), pSI_at]
      · refine ⟨mRef m 1, ho.ref, Or.inl ⟨0, fun σ a b => ?_, fun σ a b => ?_⟩⟩
        · exact ⟨_, by rw [c_tellOk a ho hks hc, if_neg hv], a.refuse (w := 1), b.ps (pSame.rfl'.si (a := 27) (os := [27]) (by decide)) (by decide)⟩
        · have f2 : pSame [33, 52] σ (aSI (aSI σ 33 0 0) 52 1 ((aSI σ 33 0 0).1 52 1 + 1)) := (pSame.rfl'.si (by decide)).si (by decide)
          refine ⟨_, by rw [ref σ b, if_neg hv], a.ps f2 (by decide), (b.k (K.rfl'.s33 (j := 0) (x := 0) (by decide))).refuse (w := 1), ?_, (f2 63 (by decide)).2⟩
          rw [pSI_ne (by decide), pSI_at]
    · refine ⟨m, Ask.toS ho (Or.inr ⟨(0, 1), by decide, fun σ I => cExI ?_, fun σ I => ?_⟩)⟩
      · obtain ⟨_, ⟨q, qs, _⟩, _⟩ := I
        rw [e_Rh_tell, s_columnNo (l := 23) (n := 4) q hk (by decide) rfl hw, pCI, s_hasSh qs.1 h60 hks, pCI, if_neg (by decide), if_pos (by decide), s_demand0, pXVt]
      · obtain ⟨_, _, b⟩ := I
        have e4 : (aSI σ 33 0 0).1 33 4 = Int32.ofNat (hn m.1 3) := (pSI_of (by decide)).trans (b.1.1 3 (by decide))
        refine rExI (v := 0) ?_
        rw [e_Md_tell, s_isSheet b.2.1.2 h60 hks, pCI, if_neg (by decide), s_isWhatO hk e4 pSI_at hw, pCI, if_pos rfl, pSI_over]
  · refine ⟨m, Ask.toS ho (Or.inr ⟨(0, 1), by decide, fun σ I => cExI ?_, fun σ I => rExI (v := 0) ?_⟩)⟩
    · obtain ⟨_, ⟨q, qs, _⟩, _⟩ := I
      rcases colI hk y 4 (by decide) with ⟨c, hc⟩ | hw
      · rw [e_Rh_tell, s_columnOf (l := 23) (n := 4) q hk (by decide) rfl hc, pCI, s_hasShO qs.1 hx, pCI, if_pos rfl, s_demand0, pXVt]
      · rw [e_Rh_tell, s_columnNo (l := 23) (n := 4) q hk (by decide) rfl hw, pCI, s_hasShO qs.1 hx, pCI, if_pos rfl, s_demand0, pXVt]
    · obtain ⟨_, _, b⟩ := I
      rw [e_Md_tell, s_isSheetO b.2.1.2 hx, pCI, if_pos rfl]
theorem oI_inj {v w : Int32} {σ σ' : aH} (h : oI v σ = oI w σ') : v = w := by
  have := congrArg (fun r : Option (aRs × aH) => match r with
    | some (.inl (some (.int x)), _) => x
    | _ => 0) h
  exact this
theorem oX_ne {k : Nat} {w : Int32} {σ σ' : aH} (h : oX k σ = oI w σ') : False := by cases h
theorem b_tell (I : Iv σ m) {x y z v : Int32} {σ' : aH} (h : Rn G 60 197 [.ref 0, .int x, .int y, .int z] σ = oI v σ') : v = 0 ∨ v = 1 := by
  obtain ⟨ho, a, _⟩ := I
  have hk := ho.1
  have h60 := ho.2.1.1
  rcases rngI (x := x) (n := m.2.1.1) (by omega) with ⟨k, hks, rfl⟩ | hx
  · rcases colI hk y 4 (by decide) with ⟨c, hc⟩ | hw
    · rw [c_tellOk a ho hks hc] at h
      by_cases hv : leastC c ≤ z ∧ z ≤ mostC c
      · rw [if_pos hv] at h
        exact Or.inr (oI_inj h).symm
      · rw [if_neg hv] at h
        exact Or.inl (oI_inj h).symm
    · rw [e_Rh_tell, s_columnNo (l := 23) (n := 4) a.1 hk (by decide) rfl hw, pCI, s_hasSh a.2.1.1 h60 hks, pCI, if_neg (by decide), if_pos (by decide), s_demand0, pXVt] at h
      exact (oX_ne h).elim
  · rcases colI hk y 4 (by decide) with ⟨c, hc⟩ | hw
    · rw [e_Rh_tell, s_columnOf (l := 23) (n := 4) a.1 hk (by decide) rfl hc, pCI, s_hasShO a.2.1.1 hx, pCI, if_pos rfl, s_demand0, pXVt] at h
      exact (oX_ne h).elim
    · rw [e_Rh_tell, s_columnNo (l := 23) (n := 4) a.1 hk (by decide) rfl hw, pCI, s_hasShO a.2.1.1 hx, pCI, if_pos rfl, s_demand0, pXVt] at h
      exact (oX_ne h).elim
theorem b_isSaid (I : Iv σ m) {x v : Int32} {σ' : aH} (h : Rn G 60 148 [.ref 0, .int x] σ = oI v σ') : v = 0 ∨ v = 1 := by
  obtain ⟨ho, ⟨q, _⟩, _⟩ := I
  have hk := ho.1
  have h12 := hk.1.2.2.2.1
  rcases rngI (x := x) (n := hn m.1 3) (by omega) with ⟨j, hj, rfl⟩ | hx
  · rw [e_Rh_isSaid, s_hasN (x1 := 3) (k := 3) rfl (by decide) (q.1 3 (by decide)) (by omega) (by omega), pCI, if_pos hj, s_demand1, pXV, s_lineIsSaid q hk (by omega), pCI] at h
    by_cases hs : j < hn m.1 3 ∧ hN m.1 j = true
    · rw [if_pos hs] at h
      exact Or.inr (oI_inj (v := 1) (σ := σ) h).symm
    · rw [if_neg hs] at h
      exact Or.inl (oI_inj (v := 0) (σ := σ) h).symm
  · rw [e_Rh_isSaid, s_hasO (x1 := 3) (k := 3) rfl (by decide) (q.1 3 (by decide)) hx, pCI, s_demand0, pXVt] at h
    exact (oX_ne h).elim
end PTell
