/-! ===== image, restore, sheet ===== -/
section PQ4
variable {G : Nat × (Nat → Int32)} {d : Nat} {σ : aH} {m : St}
def cCore : List Nat := [0, 1, 2, 4, 5, 6, 13, 14, 15, 16, 27]
def rCore : List Nat := [33, 34, 35, 36, 37, 38, 39, 40, 41, 52, 53, 54, 60, 61, 62]
theorem cAll.same {σ σ' : aH} {m : St} (q : cAll σ m) (g : ∀ o, o ∈ cCore → σ'.1 o = σ.1 o) : cAll σ' m := by
  obtain ⟨a, b, c, e⟩ := q
  refine ⟨a.same (g 4 (by decide)) (g 5 (by decide)) (g 6 (by decide)), b.same (g 13 (by decide)) (g 14 (by decide)), ?_, ?_⟩
  · cases hm : m.2.2.1 with
    | none =>
      rw [hm] at c
      exact (congrFun (g 0 (by decide)) 15).trans c
    | some i =>
      rw [hm] at c
      exact ⟨(congrFun (g 0 (by decide)) 15).trans c.1, c.2.same (g 15 (by decide)) (g 16 (by decide))⟩
  · rw [g 1 (by decide), g 2 (by decide), g 0 (by decide), g 27 (by decide)]
    exact e
theorem cAll.ps {os : List Nat} {σ σ' : aH} {m : St} (q : cAll σ m) (f : pSame os σ σ') (h : ∀ o ∈ os, o ∉ cCore) : cAll σ' m := q.same fun o ho => f.at fun h1 => h o h1 ho
theorem rAll.ps {os : List Nat} {σ σ' : aH} {m : St} (q : rAll σ m) (f : pSame os σ σ') (h : ∀ o ∈ os, o ∉ rCore) : rAll σ' m := by
  obtain ⟨a, b, c, e⟩ := q
  have g : ∀ o, o ∈ rCore → σ'.1 o = σ.1 o := fun o ho => f.at fun h1 => h o h1 ho
  have g3 : σ'.1 33 = σ.1 33 := g 33 (by decide)
  refine ⟨a.same (fun k hk => by rw [g3]) (g 34 (by decide)) (g 35 (by decide)) (g 36 (by decide)) (g 37 (by decide)) (g 38 (by decide)) (g 39 (by decide)), ⟨b.1.same (g 40 (by decide)) (g 53 (by decide)) (g 54 (by decide)), (congrFun g3 12).trans b.2⟩, ?_, ?_⟩
  · cases hm : m.2.2.1 with
    | none =>
      rw [hm] at c
      exact (congrFun g3 54).trans c
    | some i =>
      rw [hm] at c
      exact ⟨(congrFun g3 54).trans c.1, c.2.same (g 60 (by decide)) (g 61 (by decide)) (g 62 (by decide))⟩
  · rw [g3, g 41 (by decide), g 52 (by decide)]
    exact e
theorem pCp_same {a b n : Nat} : pSame [b] σ (aCp σ a b n) := by
  intro o ho
  refine ⟨?_, rfl⟩
  show (match Nat.beq o b with
    | true => fun k => if k < n then σ.1 a k else σ.1 o k
    | false => σ.1 o) = σ.1 o
  rw [show Nat.beq o b = false from Bool.eq_false_iff.mpr fun h => ho (by rw [Nat.eq_of_beq_eq_true h]; exact List.mem_cons_self)]
theorem pCp_at {a b n k : Nat} (h : k < n) : (aCp σ a b n).1 b k = σ.1 a k := by
  show (match Nat.beq b b with
    | true => fun k => if k < n then σ.1 a k else σ.1 b k
    | false => σ.1 b) k = σ.1 a k
  rw [show Nat.beq b b = true from Nat.beq_refl b]
  show (if k < n then σ.1 a k else σ.1 b k) = σ.1 a k
  rw [if_pos h]
theorem s_copies {a b n : Nat} (ha : tkd G.1 G.2 a = .inl (0, n)) (hb : tkd G.1 G.2 b = .inl (0, n)) (hab : a ≠ b) (hn : n < 2147483648) : ∃ σ', Rn G (d + 1) 92 [.ref 33, .ref a, .ref b] σ = oV σ' ∧ pSame [b] σ σ' ∧ ∀ k, k < n → σ'.1 b k = σ.1 a k := by
  rw [e_Md_copies]
  obtain ⟨c, ⟨hc1, hc2⟩, e⟩ := pLoopR0 (G := G) (d := d) (M := M_92) (fun i s => (2, [none, some (.ref a), some (.ref b), some (.int (Int32.ofNat i))], [], s)) (fun i s => pSame [b] σ s ∧ ∀ k, k < i → s.1 b k = σ.1 a k) n σ ⟨pSame.rfl', fun k hk => absurd hk (Nat.not_lt_zero k)⟩ (by
    intro i s hi ⟨h1, h2⟩
    refine ⟨aSI s b i (s.1 a i), ⟨h1.si (List.mem_cons_self), ?_⟩, ?_⟩
    · intro k hk
      by_cases h : k = i
      · subst h
        rw [pSI_at, h1.at (fun h => hab (List.mem_singleton.mp h))]
      · rw [pSI_of h]
        exact h2 k (by omega)
    · rw [c_Md_copies_2]
      unfold aLen aArr aArS
      rw [ha, hb]
      show (if Int32.ofNat n ≤ Int32.ofNat i then oV s else aIx (Int32.ofNat i) n fun j2 => aIx (Int32.ofNat i) n fun j5 => Lq G d M_92 (2, [none, some (.ref a), some (.ref b), some (.int (Int32.ofNat i + 1))], [], aSI s b j5 (s.1 a j2))) = _
      rw [if_neg (pGo hi hn), pIx hi hn, pIx hi hn, pN_s])
  refine ⟨c, ?_, hc1, hc2⟩
  refine Eq.trans e ?_
  show Lq G d M_92 (2, [none, some (.ref a), some (.ref b), some (.int (Int32.ofNat n))], [], c) = oV c
  rw [c_Md_copies_2]
  unfold aLen
  rw [ha]
  show (if Int32.ofNat n ≤ Int32.ofNat n then oV c else _) = oV c
  rw [if_pos pEnd]
theorem pNarB {x : Int32} (h : x = 0 ∨ x = 1) : vp_nar .boolean x = x := by
  rcases h with rfl | rfl <;> rfl
/-- the flags' copy, of image and restore -/
theorem s_flagsI {σ : aH} : ∃ σ', Lq G d M_309 (39, [some (.ref 33), some (.int 0)], [], σ) = oV σ' ∧ pSame [62] σ σ' ∧ ∀ k, k < 60 → σ'.1 62 k = vp_nar .boolean (σ.1 54 k) := by
  obtain ⟨c, ⟨hc1, hc2⟩, e⟩ := pLoopR0 (G := G) (d := d) (M := M_309) (fun i s => (39, [some (.ref 33), some (.int (Int32.ofNat i))], [], s)) (fun i s => pSame [62] σ s ∧ ∀ k, k < i → s.1 62 k = vp_nar .boolean (σ.1 54 k)) 60 σ ⟨pSame.rfl', fun k hk => absurd hk (Nat.not_lt_zero k)⟩ (by
    intro i s hi ⟨h1, h2⟩
    refine ⟨aSI s 62 i (vp_nar .boolean (s.1 54 i)), ⟨h1.si (by decide), ?_⟩, ?_⟩
    · intro k hk
      by_cases h : k = i
      · subst h
        rw [pSI_at, h1.at (by decide)]
      · rw [pSI_of h]
        exact h2 k (by omega)
    · rw [c_Md_image_39, if_neg (pGoL (c := 60) (n := 60) rfl hi (by decide)), pIx hi (by decide), pIx hi (by decide), pN_s])
  refine ⟨c, ?_, hc1, hc2⟩
  refine Eq.trans e ?_
  show Lq G d M_309 (39, [some (.ref 33), some (.int (Int32.ofNat 60))], [], c) = oV c
  rw [c_Md_image_39, if_pos (pEndL (c := 60) (n := 60) rfl)]
theorem s_flagsR {σ : aH} : ∃ σ', Lq G d M_311 (49, [some (.ref 33), some (.int 0)], [], σ) = oI 1 σ' ∧ pSame [54] σ σ' ∧ ∀ k, k < 60 → σ'.1 54 k = vp_nar .boolean (σ.1 62 k) := by
  obtain ⟨c, ⟨hc1, hc2⟩, e⟩ := pLoopR0 (G := G) (d := d) (M := M_311) (fun i s => (49, [some (.ref 33), some (.int (Int32.ofNat i))], [], s)) (fun i s => pSame [54] σ s ∧ ∀ k, k < i → s.1 54 k = vp_nar .boolean (σ.1 62 k)) 60 σ ⟨pSame.rfl', fun k hk => absurd hk (Nat.not_lt_zero k)⟩ (by
    intro i s hi ⟨h1, h2⟩
    refine ⟨aSI s 54 i (vp_nar .boolean (s.1 62 i)), ⟨h1.si (by decide), ?_⟩, ?_⟩
    · intro k hk
      by_cases h : k = i
      · subst h
        rw [pSI_at, h1.at (by decide)]
      · rw [pSI_of h]
        exact h2 k (by omega)
    · rw [c_Md_restore_49, if_neg (pGoL (c := 60) (n := 60) rfl hi (by decide)), pIx hi (by decide), pIx hi (by decide), pN_s])
  refine ⟨c, ?_, hc1, hc2⟩
  refine Eq.trans e ?_
  show Lq G d M_311 (49, [some (.ref 33), some (.int (Int32.ofNat 60))], [], c) = oI 1 c
  rw [c_Md_restore_49, if_pos (pEndL (c := 60) (n := 60) rfl)]
/-- sheets, copied from row to row -/
theorem rSh.cp {σ σ' : aH} {a b c a' b' c' : Nat} {s : Sh} (q : rSh σ a b c s) (h60 : s.1 ≤ 60) (h1 : ∀ k, k < 1020 → σ'.1 a' k = σ.1 a k) (h2 : ∀ k, k < 60 → σ'.1 b' k = σ.1 b k) (h3 : ∀ k, k < 60 → σ'.1 c' k = vp_nar .boolean (σ.1 c k)) : rSh σ' a' b' c' s := by
  intro k hk
  obtain ⟨q1, q2, q3, q4, q5⟩ := q k hk
  have e : σ'.1 c' k = σ.1 c k := (h3 k (by omega)).trans (pNarB q4)
  refine ⟨fun j hj => ?_, ?_, ?_, ?_, ?_⟩
  · rw [h1 _ (by omega), q1 j hj]
  · rw [h1 _ (by omega), q2]
  · rw [h1 _ (by omega), q3]
  · rw [e]
    exact q4
  · rw [e, h2 k (by omega)]
    exact q5
theorem k_image (ho : okAll m) : ∃ m', AskV G 307 309 m m' := by
  have h60 := ho.2.1.1
  refine ⟨(m.1, m.2.1, some m.2.1, m.2.2.2), ⟨ho.1, ho.2.1, fun i hi => by cases hi; exact ho.2.1, ho.2.2.2⟩, fun σ a b => ?_, fun σ a b => ?_⟩
  · have f : pSame [16, 15, 0] σ (aSI (aSI (aCp σ 14 16 1080) 15 1 ((aCp σ 14 16 1080).1 13 1)) 0 15 1) := ((pCp_same.mono (by decide)).si (by decide)).si (by decide)
    refine ⟨_, ?_, ?_, b.ps f (by decide)⟩
    · rw [e_Rh_image, e_Rh_Sheets_copyFrom_15_13, pCV]
    · obtain ⟨q1, q2, q3, q4, q5, q6, q7⟩ := a
      refine ⟨q1.ps f (by decide) (by decide) (by decide), q2.ps f (by decide) (by decide), ⟨pSI_at, ?_, ?_⟩, ?_, ?_, ?_, ?_⟩
      · rw [pSI_ne (by decide), pSI_at, pCp_same.at (by decide)]
        exact q2.1
      · intro k hk c hc
        rw [pSI_ne (by decide), pSI_ne (by decide), pCp_at (by omega)]
        exact q2.2 k hk c hc
      · rw [f.at (by decide)]
        exact q4
      · rw [f.at (by decide)]
        exact q5
      · rw [pSI_of (by decide), pSI_ne (by decide), pCp_same.at (by decide)]
        exact q6
      · rw [f.at (by decide)]
        exact q7
  · obtain ⟨σ1, r1, f1, g1⟩ := s_copies (G := G) (d := 58) (σ := aSI (aSI σ 33 0 0) 33 54 (σ.1 33 12)) (a := 40) (b := 60) (n := 1020) rfl rfl (by decide) (by decide)
    obtain ⟨σ2, r2, f2, g2⟩ := s_copies (G := G) (d := 58) (σ := σ1) (a := 53) (b := 61) (n := 60) rfl rfl (by decide) (by decide)
    obtain ⟨σ3, r3, f3, g3⟩ := s_flagsI (G := G) (d := 59) (σ := σ2)
    have f0 : pSame [33, 60, 61, 62] σ (aSI (aSI σ 33 0 0) 33 54 (σ.1 33 12)) := (pSame.rfl'.si (by decide)).si (by decide)
    have f : pSame [33, 60, 61, 62] σ σ3 := ((f0.trans (f1.mono (by decide))).trans (f2.mono (by decide))).trans (f3.mono (by decide))
    have e33 : ∀ k, k ≠ 0 → k ≠ 54 → σ3.1 33 k = σ.1 33 k := by
      intro k h0 h54
      rw [f3.at (by decide), f2.at (by decide), f1.at (by decide), pSI_of h54, pSI_of h0]
    obtain ⟨q1, ⟨q2, q2'⟩, q3, q4, q5, q6, q7⟩ := b
    refine ⟨σ3, ?_, a.ps f (by decide), q1.same (fun k hk => e33 _ (by omega) (by omega)) (f.at (by decide)) (f.at (by decide)) (f.at (by decide)) (f.at (by decide)) (f.at (by decide)) (f.at (by decide)), ⟨q2.same (f.at (by decide)) (f.at (by decide)) (f.at (by decide)), (e33 12 (by decide) (by decide)).trans q2'⟩, ⟨?_, ?_⟩, (e33 15 (by decide) (by decide)).trans q4, ?_, (e33 17 (by decide) (by decide)).trans q6, ?_⟩
    · rw [e_Md_image, r1, pCV, r2, pCV, r3]
    · rw [f3.at (by decide), f2.at (by decide), f1.at (by decide), pSI_at]
      exact q2'
    · refine q2.cp h60 (fun k hk => ?_) (fun k hk => ?_) (fun k hk => ?_)
      · rw [f3.at (by decide), f2.at (by decide), g1 k hk, pSI_ne (by decide), pSI_ne (by decide)]
      · rw [f3.at (by decide), g2 k hk, f1.at (by decide), pSI_ne (by decide), pSI_ne (by decide)]
      · rw [g3 k hk, f2.at (by decide), f1.at (by decide), pSI_ne (by decide), pSI_ne (by decide)]
    · rw [f.at (by decide)]
      exact q5
    · rw [f.at (by decide)]
      exact q7
theorem k_restore (ho : okAll m) : ∃ m', AskD G 310 311 [] m m' := by
  cases hm : m.2.2.1 with
  | none =>
    refine ⟨m, ho, 0, fun σ a b => ⟨σ, ?_, a, b⟩, fun σ a b => ⟨aSI σ 33 0 0, ?_, a.k (K.rfl'.s33 (by decide)), b.k (K.rfl'.s33 (by decide))⟩⟩
    · have e := a.2.2.1
      rw [hm] at e
      have e' : σ.1 0 15 = 0 := e
      rw [e_Rh_restore, e', if_pos rfl]
      rfl
    · have e := b.2.2.1
      rw [hm] at e
      have e' : σ.1 33 54 = -1 := e
      rw [e_Md_restore, e', if_pos rfl]
  | some i =>
    have hi := ho.2.2.1 i hm
    refine ⟨(m.1, i, m.2.2), ⟨ho.1, hi, ho.2.2.1, ho.2.2.2⟩, 1, fun σ a b => ?_, fun σ a b => ?_⟩
    · have f : pSame [14, 13] σ (aSI (aCp σ 16 14 1080) 13 1 ((aCp σ 16 14 1080).1 15 1)) := (pCp_same.mono (by decide)).si (by decide)
      obtain ⟨q1, q2, q3, q4, q5, q6, q7⟩ := a
      have q3' := q3
      rw [hm] at q3'
      obtain ⟨p1, p2⟩ := q3'
      refine ⟨_, ?_, ?_, b.ps f (by decide)⟩
      · rw [e_Rh_restore, p1, if_neg (by decide), e_Rh_Sheets_copyFrom_13_15, pCV, f.at (by decide), p1]
        rfl
      · refine ⟨q1.ps f (by decide) (by decide) (by decide), ⟨?_, ?_⟩, ?_, ?_, ?_, ?_, ?_⟩
        · rw [pSI_at, pCp_same.at (by decide)]
          exact p2.1
        · intro k hk c hc
          have h60 : i.1 ≤ 60 := hi.1
          have hk' : k < i.1 := hk
          rw [pSI_ne (by decide), pCp_at (by omega)]
          exact p2.2 k hk c hc
        · show cIm _ m.2.2.1
          rw [hm]
          exact ⟨(congrFun (f.at (by decide)) 15).trans p1, p2.ps f (by decide) (by decide)⟩
        · rw [f.at (by decide)]
          exact q4
        · rw [f.at (by decide)]
          exact q5
        · rw [f.at (by decide)]
          exact q6
        · rw [f.at (by decide)]
          exact q7
    · obtain ⟨q1, ⟨q2, q2'⟩, q3, q4, q5, q6, q7⟩ := b
      have q3' := q3
      rw [hm] at q3'
      obtain ⟨p1, p2⟩ := q3'
      have h60 : i.1 ≤ 60 := hi.1
      obtain ⟨σ1, r1, f1, g1⟩ := s_copies (G := G) (d := 58) (σ := aSI (aSI σ 33 0 0) 33 12 (σ.1 33 54)) (a := 60) (b := 40) (n := 1020) rfl rfl (by decide) (by decide)
      obtain ⟨σ2, r2, f2, g2⟩ := s_copies (G := G) (d := 58) (σ := σ1) (a := 61) (b := 53) (n := 60) rfl rfl (by decide) (by decide)
      obtain ⟨σ3, r3, f3, g3⟩ := s_flagsR (G := G) (d := 59) (σ := σ2)
      have f0 : pSame [33, 40, 53, 54] σ (aSI (aSI σ 33 0 0) 33 12 (σ.1 33 54)) := (pSame.rfl'.si (by decide)).si (by decide)
      have f : pSame [33, 40, 53, 54] σ σ3 := ((f0.trans (f1.mono (by decide))).trans (f2.mono (by decide))).trans (f3.mono (by decide))
      have e33 : ∀ k, k ≠ 0 → k ≠ 12 → σ3.1 33 k = σ.1 33 k := by
        intro k h0 h54
        rw [f3.at (by decide), f2.at (by decide), f1.at (by decide), pSI_of h54, pSI_of h0]
      refine ⟨σ3, ?_, a.ps f (by decide), q1.same (fun k hk => e33 _ (by omega) (by omega)) (f.at (by decide)) (f.at (by decide)) (f.at (by decide)) (f.at (by decide)) (f.at (by decide)) (f.at (by decide)), ⟨?_, ?_⟩, ?_, (e33 15 (by decide) (by decide)).trans q4, ?_, (e33 17 (by decide) (by decide)).trans q6, ?_⟩
      · rw [e_Md_restore, p1, if_neg (pNN1 (by omega)), ← p1, r1, pCV, r2, pCV, r3]
      · refine p2.cp h60 (fun k hk => ?_) (fun k hk => ?_) (fun k hk => ?_)
        · rw [f3.at (by decide), f2.at (by decide), g1 k hk, pSI_ne (by decide), pSI_ne (by decide)]
        · rw [f3.at (by decide), g2 k hk, f1.at (by decide), pSI_ne (by decide), pSI_ne (by decide)]
        · rw [g3 k hk, f2.at (by decide), f1.at (by decide), pSI_ne (by decide), pSI_ne (by decide)]
      · rw [f3.at (by decide), f2.at (by decide), f1.at (by decide), pSI_at]
        exact p1
      · show rIm _ m.2.2.1
        rw [hm]
        exact ⟨(e33 54 (by decide) (by decide)).trans p1, p2.same (f.at (by decide)) (f.at (by decide)) (f.at (by decide))⟩
      · rw [f.at (by decide)]
        exact q5
      · rw [f.at (by decide)]
        exact q7
end PQ4
