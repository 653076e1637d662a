/-! ===== sheets are laid; refusals are counted ===== -/
section PLay
variable {G : Nat × (Nat → Int32)} {d : Nat} {σ : aH} {m : St}
def mSh (m : St) (s : Sh) : St := (m.1, s, m.2.2)
def mRef (m : St) (w : Nat) : St := (m.1, m.2.1, m.2.2.1, m.2.2.2.1, m.2.2.2.2.1, m.2.2.2.2.2.1, fun k => if k = w then m.2.2.2.2.2.2 k + 1 else m.2.2.2.2.2.2 k)
theorem okAll.ref (ho : okAll m) {w : Nat} : okAll (mRef m w) := ho
theorem okAll.sh (ho : okAll m) {s : Sh} (h : Sok m.1 s) : okAll (mSh m s) := ⟨ho.1, h, ho.2.2.1, ho.2.2.2⟩
theorem cAll.refuse (q : cAll σ m) {w : Nat} : cAll (aSI σ 27 w (σ.1 27 w + 1)) (mRef m w) := by
  have f : pSame [27] σ (aSI σ 27 w (σ.1 27 w + 1)) := pSame.rfl'.si (by decide)
  have q' := q
  obtain ⟨q1, q2, q3, q4, q5, q6, q7⟩ := q
  refine ⟨q1.ps f (by decide) (by decide) (by decide), q2.ps f (by decide) (by decide), ?_, ?_, ?_, ?_, ?_⟩
  · show cIm _ m.2.2.1
    cases hm : m.2.2.1 with
    | none =>
      rw [hm] at q3
      exact (congrFun (f.at (by decide)) 15).trans q3
    | some i =>
      rw [hm] at q3
      exact ⟨(congrFun (f.at (by decide)) 15).trans q3.1, q3.2.ps f (by decide) (by decide)⟩
  · rw [f.at (by decide)]; exact q4
  · rw [f.at (by decide)]; exact q5
  · rw [f.at (by decide)]; exact q6
  · intro k hk
    show _ = if k = w then m.2.2.2.2.2.2 k + 1 else m.2.2.2.2.2.2 k
    by_cases h : k = w
    · subst h
      rw [pSI_at, if_pos rfl, q7 k hk]
    · rw [pSI_of h, if_neg h, q7 k hk]
theorem rAll.refuse (q : rAll σ m) {w : Nat} : rAll (aSI σ 52 w (σ.1 52 w + 1)) (mRef m w) := by
  have f : pSame [52] σ (aSI σ 52 w (σ.1 52 w + 1)) := pSame.rfl'.si (by decide)
  obtain ⟨q1, ⟨q2, q2'⟩, q3, q4, q5, q6, q7⟩ := q
  have e33 : (aSI σ 52 w (σ.1 52 w + 1)).1 33 = σ.1 33 := f.at (by decide)
  refine ⟨q1.same (fun k hk => by rw [e33]) (f.at (by decide)) (f.at (by decide)) (f.at (by decide)) (f.at (by decide)) (f.at (by decide)) (f.at (by decide)), ⟨q2.same (f.at (by decide)) (f.at (by decide)) (f.at (by decide)), (congrFun e33 12).trans q2'⟩, ?_, ?_, ?_, ?_, ?_⟩
  · show rIm _ m.2.2.1
    cases hm : m.2.2.1 with
    | none =>
      rw [hm] at q3
      exact (congrFun e33 54).trans q3
    | some i =>
      rw [hm] at q3
      exact ⟨(congrFun e33 54).trans q3.1, q3.2.same (f.at (by decide)) (f.at (by decide)) (f.at (by decide))⟩
  · rw [e33]; exact q4
  · rw [f.at (by decide)]; exact q5
  · rw [e33]; exact q6
  · intro k hk
    show _ = if k = w then m.2.2.2.2.2.2 k + 1 else m.2.2.2.2.2.2 k
    by_cases h : k = w
    · subst h
      rw [pSI_at, if_pos rfl, q7 k hk]
    · rw [pSI_of h, if_neg h, q7 k hk]
theorem s_refuse {x : Int32} {w : Nat} (hx : x = Int32.ofNat w) (hw : w < 3) : Rn G (d + 2) 58 [.ref 0, .int x] σ = oV (aSI σ 27 w (σ.1 27 w + 1)) := by
  rw [e_Rh_countRefusal, s_cell (r := 27) (n := 3) (i := w) rfl hx hw (by decide), pCI, s_put (r := 27) (n := 3) (i := w) rfl hx hw (by decide), pCV]
theorem cAll.sheets {σ' : aH} (q : cAll σ m) {os : List Nat} (f : pSame os σ σ') (ho : ∀ o ∈ os, o ∉ [0, 1, 2, 4, 5, 6, 15, 16, 27]) {s : Sh} (h : cSh σ' 13 s) : cAll σ' (mSh m s) := by
  have g : ∀ o, o ∈ [0, 1, 2, 4, 5, 6, 15, 16, 27] → σ'.1 o = σ.1 o := fun o h1 => f.at fun h2 => ho o h2 h1
  obtain ⟨q1, q2, q3, q4, q5, q6, q7⟩ := q
  refine ⟨q1.same (g 4 (by decide)) (g 5 (by decide)) (g 6 (by decide)), h, ?_, ?_, ?_, ?_, ?_⟩
  · show cIm _ m.2.2.1
    cases hm : m.2.2.1 with
    | none =>
      rw [hm] at q3
      exact (congrFun (g 0 (by decide)) 15).trans q3
    | some i =>
      rw [hm] at q3
      exact ⟨(congrFun (g 0 (by decide)) 15).trans q3.1, q3.2.same (g 15 (by decide)) (g 16 (by decide))⟩
  · rw [g 1 (by decide)]; exact q4
  · rw [g 2 (by decide)]; exact q5
  · rw [g 0 (by decide)]; exact q6
  · rw [g 27 (by decide)]; exact q7
theorem rAll.sheets {σ' : aH} (q : rAll σ m) {os : List Nat} (f : pSame os σ σ') (ho : ∀ o ∈ os, o ∉ [34, 35, 36, 37, 38, 39, 41, 52, 60, 61, 62]) (h33 : ∀ k, k ∈ [1, 2, 3, 4, 5, 15, 17, 54] → σ'.1 33 k = σ.1 33 k) {s : Sh} (h : rSh σ' 40 53 54 s) (h12 : σ'.1 33 12 = Int32.ofNat s.1) : rAll σ' (mSh m s) := by
  have g : ∀ o, o ∈ [34, 35, 36, 37, 38, 39, 41, 52, 60, 61, 62] → σ'.1 o = σ.1 o := fun o h1 => f.at fun h2 => ho o h2 h1
  obtain ⟨q1, q2, q3, q4, q5, q6, q7⟩ := q
  refine ⟨q1.same (fun k hk => ?_) (g 34 (by decide)) (g 35 (by decide)) (g 36 (by decide)) (g 37 (by decide)) (g 38 (by decide)) (g 39 (by decide)), ⟨h, h12⟩, ?_, ?_, ?_, ?_, ?_⟩
  · rcases (show k = 0 ∨ k = 1 ∨ k = 2 ∨ k = 3 ∨ k = 4 by omega) with rfl | rfl | rfl | rfl | rfl
    · exact h33 1 (by decide)
    · exact h33 2 (by decide)
    · exact h33 3 (by decide)
    · exact h33 4 (by decide)
    · exact h33 5 (by decide)
  · show rIm _ m.2.2.1
    cases hm : m.2.2.1 with
    | none =>
      rw [hm] at q3
      exact (h33 54 (by decide)).trans q3
    | some i =>
      rw [hm] at q3
      exact ⟨(h33 54 (by decide)).trans q3.1, q3.2.same (g 60 (by decide)) (g 61 (by decide)) (g 62 (by decide))⟩
  · exact (h33 15 (by decide)).trans q4
  · rw [g 41 (by decide)]; exact q5
  · exact (h33 17 (by decide)).trans q6
  · rw [g 52 (by decide)]; exact q7
/-- a sheet on which nothing is told yet -/
def newRow (x y : Int32) (c : Nat) : Int32 := if c < 15 then 0 else if c = 15 then 100 else if c = 16 then x else y
def shAdd (s : Sh) (r : Nat → Int32) : Sh := (s.1 + 1, fun k => if k = s.1 then r else s.2 k)
/-- a row of the class's sheets is turned, no other -/
theorem s_layC {k : Nat} (hk : k < 60) {x y : Int32} : ∃ σ', Rn G (d + 3) 100 [.ref 13, .int (Int32.ofNat k), .int x, .int y] σ = oV σ' ∧ pSame [14] σ σ' ∧ (∀ c, c < 18 → σ'.1 14 (18 * k + c) = newRow x y c) ∧ ∀ j, (j < 18 * k ∨ 18 * k + 18 ≤ j) → σ'.1 14 j = σ.1 14 j := by
  rw [e_Rh_Sheets_lay]
  obtain ⟨b, ⟨hb1, hb2, hb3⟩, e⟩ := pLoopR0 (G := G) (d := d + 2) (M := M_100) (fun i s => (3, [some (.ref 13), some (.int (Int32.ofNat k)), some (.int x), some (.int y), some (.int (Int32.ofNat i))], [], s)) (fun i s => pSame [14] σ s ∧ (∀ c, c < i → s.1 14 (18 * k + c) = 0) ∧ ∀ j, (j < 18 * k ∨ 18 * k + 18 ≤ j) → s.1 14 j = σ.1 14 j) 15 σ ⟨pSame.rfl', fun c hc => absurd hc (Nat.not_lt_zero c), fun _ _ => rfl⟩ (by
    intro i s hi ⟨h1, h2, h3⟩
    refine ⟨aSI s 14 (18 * k + i) 0, ⟨h1.si (by decide), ?_, ?_⟩, ?_⟩
    · intro c hc
      by_cases h : c = i
      · subst h
        exact pSI_at
      · rw [pSI_of (by omega)]
        exact h2 c (by omega)
    · intro j hj
      rw [pSI_of (by omega)]
      exact h3 j hj
    · rw [c_Rh_Sheets_lay_3, if_neg (pGoL (c := 15) (n := 15) rfl hi (by decide)), s_set (k := k) (c := i) rfl rfl (by omega), pCV, pN_s])
  refine ⟨aSI (aSI (aSI b 14 (18 * k + 15) 100) 14 (18 * k + 16) x) 14 (18 * k + 17) y, ?_, ((hb1.si (by decide)).si (by decide)).si (by decide), ?_, ?_⟩
  · refine Eq.trans e ?_
    show Lq G (d + 2) M_100 (3, [some (.ref 13), some (.int (Int32.ofNat k)), some (.int x), some (.int y), some (.int (Int32.ofNat 15))], [], b) = _
    rw [c_Rh_Sheets_lay_3, if_pos (pEndL (c := 15) (n := 15) rfl), s_set (x2 := 15) (k := k) (c := 15) rfl rfl (by omega), pCV, s_set (x2 := 16) (k := k) (c := 16) rfl rfl (by omega), pCV, s_set (x2 := 17) (k := k) (c := 17) rfl rfl (by omega), pCV]
  · intro c hc
    unfold newRow
    by_cases h : c < 15
    · rw [if_pos h, pSI_of (by omega), pSI_of (by omega), pSI_of (by omega), hb2 c h]
    · rcases (show c = 15 ∨ c = 16 ∨ c = 17 by omega) with rfl | rfl | rfl
      · rw [if_neg (by decide), if_pos rfl, pSI_of (by omega), pSI_of (by omega), pSI_at]
      · rw [if_neg (by decide), if_neg (by decide), if_pos rfl, pSI_of (by omega), pSI_at]
      · rw [if_neg (by decide), if_neg (by decide), if_neg (by decide), pSI_at]
  · intro j hj
    rw [pSI_of (by omega), pSI_of (by omega), pSI_of (by omega), hb3 j hj]
theorem cSh.add {s : Sh} {σ' : aH} (q : cSh σ 13 s) (h13 : σ'.1 13 1 = Int32.ofNat (s.1 + 1)) {r : Nat → Int32} (h1 : ∀ c, c < 18 → σ'.1 14 (18 * s.1 + c) = r c) (h2 : ∀ j, j < 18 * s.1 → σ'.1 14 j = σ.1 14 j) : cSh σ' 13 (shAdd s r) := by
  refine ⟨h13, fun k hk c hc => ?_⟩
  have hk' : k < s.1 + 1 := hk
  show σ'.1 14 (18 * k + c) = (if k = s.1 then r else s.2 k) c
  by_cases h : k = s.1
  · subst h
    rw [if_pos rfl, h1 c hc]
  · rw [if_neg h, h2 _ (by omega)]
    exact q.2 k (by omega) c hc
theorem s_laysM {n : Nat} (hn : n < 60) (e12 : σ.1 33 12 = Int32.ofNat n) {x y : Int32} : ∃ σ', Rn G (d + 1) 195 [.ref 33, .int x, .int y] σ = oI (Int32.ofNat n) σ' ∧ pSame [33, 40, 53, 54] σ σ' ∧ (∀ k, k ≠ 12 → σ'.1 33 k = σ.1 33 k) ∧ σ'.1 33 12 = Int32.ofNat (n + 1) ∧ (∀ j, j < 15 → σ'.1 40 (17 * n + j) = 0) ∧ σ'.1 40 (17 * n + 15) = x ∧ σ'.1 40 (17 * n + 16) = y ∧ (∀ j, j < 17 * n → σ'.1 40 j = σ.1 40 j) ∧ σ'.1 54 n = 0 ∧ (∀ j, j < n → σ'.1 54 j = σ.1 54 j ∧ σ'.1 53 j = σ.1 53 j) := by
  rw [e_Md_lays_1]
  obtain ⟨b, ⟨hb1, hb2, hb3⟩, e⟩ := pLoopR0 (G := G) (d := d) (M := M_195) (fun i s => (2, [some (.ref 33), some (.int x), some (.int y), some (.int (Int32.ofNat i))], [], s)) (fun i s => pSame [40] σ s ∧ (∀ c, c < i → s.1 40 (17 * n + c) = 0) ∧ ∀ j, j < 17 * n → s.1 40 j = σ.1 40 j) 17 σ ⟨pSame.rfl', fun c hc => absurd hc (Nat.not_lt_zero c), fun _ _ => rfl⟩ (by
    intro i s hi ⟨h1, h2, h3⟩
    have e : s.1 33 12 = Int32.ofNat n := (congrFun (h1.at (by decide)) 12).trans e12
    refine ⟨aSI s 40 (17 * n + i) 0, ⟨h1.si (by decide), ?_, ?_⟩, ?_⟩
    · intro c hc
      by_cases h : c = i
      · subst h
        exact pSI_at
      · rw [pSI_of (by omega)]
        exact h2 c (by omega)
    · intro j hj
      rw [pSI_of (by omega)]
      exact h3 j hj
    · rw [c_Md_lays_1_2, if_neg (pGoL (c := 17) (n := 17) rfl hi (by decide)), e, pM17, pA, pIx (by omega) (by decide), pN_s])
  have e' : b.1 33 12 = Int32.ofNat n := (congrFun (hb1.at (by decide)) 12).trans e12
  refine ⟨aSI (aSI (aSI (aSI (aSI b 40 (17 * n + 15) x) 40 (17 * n + 16) y) 54 n 0) 53 n 0) 33 12 (Int32.ofNat (n + 1)), ?_, (((((hb1.mono (by decide)).si (by decide)).si (by decide)).si (by decide)).si (by decide)).si (by decide), ?_, pSI_at, ?_, ?_, ?_, ?_, ?_, ?_⟩
  · refine Eq.trans e ?_
    show Lq G d M_195 (2, [some (.ref 33), some (.int x), some (.int y), some (.int (Int32.ofNat 17))], [], b) = _
    rw [c_Md_lays_1_2, if_pos (pEndL (c := 17) (n := 17) rfl), e', pM17, pA15, pA16, pIx (by omega) (by decide), pIx (by omega) (by decide), pIx (by omega) (by decide), pIx (by omega) (by decide), pN_s, ← pN_s, Int32.add_sub_cancel]
  · intro k hk
    rw [pSI_of hk, pSI_ne (by decide), pSI_ne (by decide), pSI_ne (by decide), pSI_ne (by decide), hb1.at (by decide)]
  · intro j hj
    rw [pSI_ne (by decide), pSI_ne (by decide), pSI_ne (by decide), pSI_of (by omega), pSI_of (by omega), hb2 j (by omega)]
  · rw [pSI_ne (by decide), pSI_ne (by decide), pSI_ne (by decide), pSI_of (by omega), pSI_at]
  · rw [pSI_ne (by decide), pSI_ne (by decide), pSI_ne (by decide), pSI_at]
  · intro j hj
    rw [pSI_ne (by decide), pSI_ne (by decide), pSI_ne (by decide), pSI_of (by omega), pSI_of (by omega), hb3 j hj]
  · rw [pSI_ne (by decide), pSI_ne (by decide), pSI_at]
  · intro j hj
    rw [pSI_ne (by decide), pSI_ne (by decide), pSI_of (by omega), pSI_ne (by decide), pSI_ne (by decide), hb1.at (by decide), pSI_ne (by decide), pSI_of (by omega), pSI_ne (by decide), pSI_ne (by decide), pSI_ne (by decide), hb1.at (by decide)]
    exact ⟨rfl, rfl⟩
theorem newOk {h : Ho} (hk : Hok h) {p s : Nat} (hp : p < hn h 0) (hs : s < hn h 1) : okT h (newRow (Int32.ofNat p) (Int32.ofNat s)) := by
  have b0 : pBd 0 0 0 := ⟨Int.le_refl _, Int.le_refl _⟩
  refine ⟨⟨p, hp, rfl⟩, ⟨s, hs, rfl⟩, fun c hc => ?_, ?_, ?_, ?_, Or.inl rfl⟩
  · unfold newRow
    rw [if_pos (by omega)]
    exact b0.mono (by decide) (by decide)
  · exact b0.mono (by decide) (by decide)
  · exact b0.mono (by decide) (by decide)
  · exact b0.mono (by decide) (by decide)
theorem Sok.add {h : Ho} {s : Sh} (q : Sok h s) (hs : s.1 < 60) {r : Nat → Int32} (hr : okT h r) : Sok h (shAdd s r) := by
  refine ⟨hs, fun k hk => ?_⟩
  have hk' : k < s.1 + 1 := hk
  show okT h (if k = s.1 then r else s.2 k)
  by_cases e : k = s.1
  · rw [if_pos e]
    exact hr
  · rw [if_neg e]
    exact q.2 k (by omega)
theorem rSh.add {s : Sh} {σ' : aH} (q : rSh σ 40 53 54 s) {x y : Int32} (h1 : ∀ j, j < 15 → σ'.1 40 (17 * s.1 + j) = 0) (h2 : σ'.1 40 (17 * s.1 + 15) = x) (h3 : σ'.1 40 (17 * s.1 + 16) = y) (h4 : ∀ j, j < 17 * s.1 → σ'.1 40 j = σ.1 40 j) (h5 : σ'.1 54 s.1 = 0) (h6 : ∀ j, j < s.1 → σ'.1 54 j = σ.1 54 j ∧ σ'.1 53 j = σ.1 53 j) : rSh σ' 40 53 54 (shAdd s (newRow x y)) := by
  intro k hk
  have hk' : k < s.1 + 1 := hk
  by_cases e : k = s.1
  · subst e
    have er : (shAdd s (newRow x y)).2 s.1 = newRow x y := if_pos rfl
    rw [er]
    refine ⟨fun j hj => ?_, h2, h3, Or.inl h5, ?_⟩
    · rw [h1 j hj]
      exact (if_pos hj).symm
    · rw [if_pos h5]
      rfl
  · have er : (shAdd s (newRow x y)).2 k = s.2 k := if_neg e
    rw [er]
    obtain ⟨a1, a2, a3, a4, a5⟩ := q k (by omega)
    obtain ⟨g1, g2⟩ := h6 k (by omega)
    refine ⟨fun j hj => by rw [h4 _ (by omega), a1 j hj], by rw [h4 _ (by omega), a2], by rw [h4 _ (by omega), a3], by rw [g1]; exact a4, ?_⟩
    rw [g1, g2]
    exact a5
theorem k_sheet (ho : okAll m) (x y : Int32) : ∃ m', AskS G 193 194 [.int x, .int y] [(0, 1)] m m' := by
  have hk := ho.1
  obtain ⟨k0, k1, _⟩ := hk.1
  have h60 := ho.2.1.1
  rcases rngI (x := x) (n := hn m.1 0) (by omega) with ⟨p, hp, rfl⟩ | hx
  · rcases rngI (x := y) (n := hn m.1 1) (by omega) with ⟨s, hs, rfl⟩ | hy
    · have cls : ∀ σ, cAll σ m → Rn G 60 193 [.ref 0, .int (Int32.ofNat p), .int (Int32.ofNat s)] σ = if σ.1 13 1 < 60 then aCV (Rn G 59 100 [.ref 13, .int (σ.1 13 1), .int (Int32.ofNat p), .int (Int32.ofNat s)] σ) fun σ18 => oI ((σ18.1 13 1 + 1) - 1) (aSI σ18 13 1 (σ18.1 13 1 + 1)) else aCV (Rn G 59 58 [.ref 0, .int 2] σ) fun σ19 => oI (-1) σ19 := by
        intro σ a
        rw [e_Rh_sheet, s_hasN (x1 := 0) (k := 0) rfl (by decide) (a.1.1 0 (by decide)) (by omega) (by omega), pCI, pB0, if_pos hp, s_hasN (x1 := 1) (k := 1) rfl (by decide) (a.1.1 1 (by decide)) (by omega) (by omega), pCI, pB0, if_pos hs, s_demand1, pXV]
      have rfr : ∀ σ, rAll σ m → Rn G 60 194 [.ref 33, .int (Int32.ofNat p), .int (Int32.ofNat s)] σ = if σ.1 33 12 = 60 then oI (-1) (aSI (aSI σ 33 0 0) 52 2 (σ.1 52 2 + 1)) else aCI (Rn G 59 195 [.ref 33, .int (Int32.ofNat p), .int (Int32.ofNat s)] (aSI σ 33 0 0)) fun v20 σ19 => oI v20 σ19 := by
        intro σ b
        have e1 : σ.1 33 1 = Int32.ofNat (hn m.1 0) := b.1.1 0 (by decide)
        have e2 : σ.1 33 2 = Int32.ofNat (hn m.1 1) := b.1.1 1 (by decide)
        rw [e_Md_sheet, e1, e2, if_neg (pN_n0 (by omega)), if_neg (pGo hp (by omega)), if_neg (pN_n0 (by omega)), if_neg (pGo hs (by omega)), s_r1, pCI, if_neg (by decide), pSI_of (by decide), pSI_ne (by decide)]
      by_cases hf : m.2.1.1 < 60
      · refine ⟨mSh m (shAdd m.2.1 (newRow (Int32.ofNat p) (Int32.ofNat s))), ho.sh (ho.2.1.add hf (newOk hk hp hs)), Or.inl ⟨Int32.ofNat m.2.1.1, fun σ a b => ?_, fun σ a b => ?_⟩⟩
        · have e13 : σ.1 13 1 = Int32.ofNat m.2.1.1 := a.2.1.1
          obtain ⟨σ1, r1, f1, g1, g2⟩ := s_layC (G := G) (d := 56) (σ := σ) hf (x := Int32.ofNat p) (y := Int32.ofNat s)
          have e13' : σ1.1 13 1 = Int32.ofNat m.2.1.1 := (congrFun (f1.at (by decide)) 1).trans e13
          have f2 : pSame [14, 13] σ (aSI σ1 13 1 (Int32.ofNat (m.2.1.1 + 1))) := (f1.mono (by decide)).si (by decide)
          refine ⟨aSI σ1 13 1 (Int32.ofNat (m.2.1.1 + 1)), ?_, a.sheets f2 (by decide) (a.2.1.add pSI_at (fun c hc => by rw [pSI_ne (by decide)]; exact g1 c hc) (fun j hj => by rw [pSI_ne (by decide)]; exact g2 j (Or.inl hj))), b.ps f2 (by decide)⟩
          rw [cls σ a, e13, if_pos (show Int32.ofNat m.2.1.1 < 60 from (pN_lt (b := 60) (by omega) (by decide)).mpr hf), r1, pCV, e13', pN_s, ← pN_s, Int32.add_sub_cancel]
        · have e12 : (aSI σ 33 0 0).1 33 12 = Int32.ofNat m.2.1.1 := (pSI_of (by decide)).trans b.2.1.2
          obtain ⟨σ1, r1, f1, g0, g1, g2, g3, g4, g5, g6, g7⟩ := s_laysM (G := G) (d := 58) hf e12 (x := Int32.ofNat p) (y := Int32.ofNat s)
          have f2 : pSame [33, 40, 53, 54] σ σ1 := (pSame.rfl'.si (by decide)).trans f1
          refine ⟨σ1, ?_, a.ps f2 (by decide), b.sheets f2 (by decide) (fun k hk => ?_) (b.2.1.1.add g2 g3 g4 (fun j hj => ?_) g6 (fun j hj => ?_)) g1, ?_, ?_⟩
          · rw [rfr σ b, b.2.1.2, if_neg (fun h => absurd ((pEqL (c := 60) (n := 60) rfl (by decide) (by omega)).mp h) (by omega)), r1, pCI]
          · rw [g0 k (by intro e; subst e; exact absurd hk (by decide)), pSI_of (by intro e; subst e; exact absurd hk (by decide))]
          · rw [g5 j hj, pSI_ne (by decide)]
          · rw [(g7 j hj).1, (g7 j hj).2, pSI_ne (by decide), pSI_ne (by decide)]
            exact ⟨rfl, rfl⟩
          · rw [g0 0 (by decide), pSI_at]
          · exact (f2 63 (by decide)).2
      · have e60 : m.2.1.1 = 60 := by omega
        refine ⟨mRef m 2, ho.ref, Or.inl ⟨-1, fun σ a b => ?_, fun σ a b => ?_⟩⟩
        · have e13 : σ.1 13 1 = Int32.ofNat 60 := by rw [← e60]; exact a.2.1.1
          refine ⟨_, ?_, a.refuse (w := 2), b.ps (pSame.rfl'.si (a := 27) (os := [27]) (by decide)) (by decide)⟩
          rw [cls σ a, e13, if_neg (show ¬ Int32.ofNat 60 < 60 from pEnd'), s_refuse (x := 2) (w := 2) rfl (by decide), pCV]
        · have e12 : σ.1 33 12 = Int32.ofNat 60 := by rw [← e60]; exact b.2.1.2
          have f2 : pSame [33, 52] σ (aSI (aSI σ 33 0 0) 52 2 (σ.1 52 2 + 1)) := (pSame.rfl'.si (by decide)).si (by decide)
          have b2 : rAll (aSI (aSI σ 33 0 0) 52 2 (σ.1 52 2 + 1)) (mRef m 2) := by
            have := (b.k (K.rfl'.s33 (j := 0) (x := 0) (by decide))).refuse (w := 2)
            rw [pSI_ne (by decide)] at this
            exact this
          refine ⟨_, ?_, a.ps f2 (by decide), b2, ?_, (f2 63 (by decide)).2⟩
          · rw [rfr σ b, e12, if_pos (show Int32.ofNat 60 = 60 from rfl)]
          · rw [pSI_ne (by decide), pSI_at]
    · refine ⟨m, Ask.toS ho (Or.inr ⟨(0, 1), by decide, fun σ I => cExI ?_, fun σ I => rExI (v := 0) ?_⟩)⟩
      · obtain ⟨_, ⟨q, _⟩, _⟩ := I
        rw [e_Rh_sheet, s_hasN (x1 := 0) (k := 0) rfl (by decide) (q.1 0 (by decide)) (by omega) (by omega), pCI, pB0, if_pos hp, s_hasO (x1 := 1) (k := 1) rfl (by decide) (q.1 1 (by decide)) hy, pCI, if_pos rfl, s_demand0, pXVt]
      · obtain ⟨_, _, ⟨q, _⟩⟩ := I
        have e1 : σ.1 33 1 = Int32.ofNat (hn m.1 0) := q.1 0 (by decide)
        have e2 : σ.1 33 2 = Int32.ofNat (hn m.1 1) := q.1 1 (by decide)
        rw [e_Md_sheet, e1, e2, if_neg (pN_n0 (by omega)), if_neg (pGo hp (by omega)), s_r0 (by decide), pCI, if_pos rfl]
        by_cases h0 : y < 0
        · rw [if_pos h0]
        · rw [if_neg h0, if_pos (hy.resolve_left h0)]
  · refine ⟨m, Ask.toS ho (Or.inr ⟨(0, 1), by decide, fun σ I => cExI ?_, fun σ I => rExI (v := 0) ?_⟩)⟩
    · obtain ⟨_, ⟨q, _⟩, _⟩ := I
      rw [e_Rh_sheet, s_hasO (x1 := 0) (k := 0) rfl (by decide) (q.1 0 (by decide)) hx, pCI, if_pos rfl, s_demand0, pXVt]
    · obtain ⟨_, _, ⟨q, _⟩⟩ := I
      have e1 : σ.1 33 1 = Int32.ofNat (hn m.1 0) := q.1 0 (by decide)
      rw [e_Md_sheet, e1, s_r0 (by decide), pCI, if_pos rfl]
      by_cases h0 : x < 0
      · rw [if_pos h0]
      · rw [if_neg h0, if_pos (hx.resolve_left h0)]
end PLay
