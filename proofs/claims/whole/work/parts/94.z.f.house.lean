/-! ===== house ===== -/
theorem stH_mono {h : Ho} : ∀ {m n : Nat}, m ≤ n → stH h m ≤ stH h n := by
  intro m n hmn
  induction n with
  | zero =>
    have : m = 0 := by omega
    rw [this]
    exact Nat.le_refl _
  | succ n ihn =>
    by_cases em : m = n + 1
    · rw [em]
      exact Nat.le_refl _
    · have := ihn (by omega)
      show stH h m ≤ stH h n + (hR h n).length
      omega
theorem rdH_mono {h : Ho} : ∀ {m n : Nat}, m ≤ n → rdH h m ≤ rdH h n := by
  intro m n hmn
  induction n with
  | zero =>
    have : m = 0 := by omega
    rw [this]
    exact Nat.le_refl _
  | succ n ihn =>
    by_cases em : m = n + 1
    · rw [em]
      exact Nat.le_refl _
    · have := ihn (by omega)
      show rdH h m ≤ rdH h n + (rEnc (hR h n)).length
      omega
theorem cHo_cp {σ b : aH} {h : Ho} (q : cHb σ h) (hk : Hok h) (hs : stH h (hn h 4) ≤ 700) (e4 : ∀ k, k < 5 → b.1 4 k = σ.1 8 k) (e5 : ∀ k, k < 286 → b.1 5 k = σ.1 9 k) (e6 : ∀ k, k < 700 → b.1 6 k = σ.1 10 k) : cHo b h := by
  obtain ⟨c, qP, qS, qL, qN, q7, qR⟩ := q
  obtain ⟨c0, c1, c2, c3, c4⟩ := hk.1
  refine ⟨fun k hk => (e4 k hk).trans (c k hk), fun p hp k hk => (e5 _ (by omega)).trans (qP p hp k hk), fun p hp k hk => (e5 _ (by omega)).trans (qS p hp k hk), fun p hp k hk => (e5 _ (by omega)).trans (qL p hp k hk), fun p hp => (e5 _ (by omega)).trans (qN p hp), stH h, rfl, fun r hr => ?_⟩
  have m := stH_mono (h := h) (show r + 1 ≤ hn h 4 by omega)
  have m2 : stH h (r + 1) = stH h r + (hR h r).length := rfl
  exact ⟨(e5 _ (by omega)).trans (qR r hr).1, rfl, by omega, pSeg_congr _ _ (fun i h1 h2 => e6 i (by omega)) (qR r hr).2⟩
theorem rHo_cp {σ b : aH} {h : Ho} (q : rHb σ h) (hk : Hok h) (hs : rdH h (hn h 4) ≤ 1200) (e33 : ∀ k, k < 5 → b.1 33 (1 + k) = σ.1 33 (26 + k)) (e34 : ∀ k, k < 120 → b.1 34 k = σ.1 42 k) (e35 : ∀ k, k < 120 → b.1 35 k = σ.1 43 k) (e36 : ∀ k, k < 30 → b.1 36 k = σ.1 44 k) (e37 : ∀ k, k < 4 → b.1 37 k = σ.1 45 k) (e38 : ∀ k, k < 1200 → b.1 38 k = σ.1 46 k) (e39 : ∀ k, k < 12 → b.1 39 k = vp_nar .boolean (σ.1 48 k)) : rHo b h := by
  obtain ⟨c, qP, qS, qL, qN, q7, qR⟩ := q
  obtain ⟨c0, c1, c2, c3, c4⟩ := hk.1
  refine ⟨fun k hk => (e33 k hk).trans (c k hk), fun p hp k hk => (e34 _ (by omega)).trans (qP p hp k hk), fun p hp k hk => (e35 _ (by omega)).trans (qS p hp k hk), fun p hp k hk => (e36 _ (by omega)).trans (qL p hp k hk), fun p hp => ?_, fun r hr => ?_⟩
  · have e := qN p hp
    rw [e39 p (by omega), pNarB ?_, e]
    rw [e]
    split
    · exact Or.inr rfl
    · exact Or.inl rfl
  · have m := rdH_mono (h := h) (show r + 1 ≤ hn h 4 by omega)
    have m2 : rdH h (r + 1) = rdH h r + (rEnc (hR h r)).length := rfl
    exact ⟨rdH h r, (e37 r (by omega)).trans (qR r hr).1, by omega, pSeg_congr _ _ (fun i h1 h2 => e38 i (by omega)) (qR r hr).2⟩
section PHouse
variable {G : Nat × (Nat → Int32)} {d : Nat} {σ : aH} {T : Tx}
theorem s_closeBad {s : Nat × Nat} (q : CS σ T s) (hs : s.1 ≠ 0) : Rn G (d + 3) 57 [.ref 0] σ = oV (aSI (aSI (aSI σ 1 1 0) 0 16 (Int32.ofNat (tQ T s.2))) 27 0 (σ.1 27 0 + 1)) := by
  have n2 : ¬ σ.1 1 2 = 0 := fun e => hs (q.z.mp e)
  have e3 : σ.1 1 3 = Int32.ofNat (tQ T s.2) := q.2.2.2.2.1
  rw [e_Rh_closeTape, if_neg n2, if_neg n2, e3, s_refuse (d := d) (x := 0) (w := 0) rfl (by decide), pCV, pSI_ne (by decide), pSI_ne (by decide)]
theorem s_closeOk {s : Nat × Nat} (q : CS σ T s) (hs : s.1 = 0) : Rn G (d + 3) 57 [.ref 0] σ = oV (aSI (aSI σ 1 1 0) 0 16 (-1)) := by
  rw [e_Rh_closeTape, if_pos (q.z.mpr hs), if_pos (q.z.mpr hs)]
theorem s_lines : ∃ b, Lq G d M_60 (189, [some (.ref 33), none, some (.int 0)], [], σ) = oI 0 (aSI (aSI b 33 12 0) 33 54 (-1)) ∧ pSame [39] σ b ∧ ∀ k, k < 12 → b.1 39 k = vp_nar .boolean (σ.1 48 k) := by
  obtain ⟨c, ⟨hc1, hc2⟩, e⟩ := pLoopR0 (G := G) (d := d) (M := M_60) (fun i s => (189, [some (.ref 33), none, some (.int (Int32.ofNat i))], [], s)) (fun i s => pSame [39] σ s ∧ ∀ k, k < i → s.1 39 k = vp_nar .boolean (σ.1 48 k)) 12 σ ⟨pSame.rfl', fun k hk => absurd hk (Nat.not_lt_zero k)⟩ (by
    intro i s hi ⟨h1, h2⟩
    refine ⟨aSI s 39 i (vp_nar .boolean (s.1 48 i)), ⟨h1.si (by decide), ?_⟩, ?_⟩
    · intro k hk
      by_cases h : k = i
      · subst h
        rw [pSI_at, h1.at (by decide)]
      · rw [pSI_of h]
        exact h2 k (by omega)
    · rw [c_Md_house_189, if_neg (pGoL (c := 12) (n := 12) rfl hi (by decide)), pIx hi (by decide), pIx hi (by decide), pN_s])
  refine ⟨c, ?_, hc1, hc2⟩
  refine Eq.trans e ?_
  show Lq G d M_60 (189, [some (.ref 33), none, some (.int (Int32.ofNat 12))], [], c) = oI 0 (aSI (aSI c 33 12 0) 33 54 (-1))
  rw [c_Md_house_189, if_pos (pEndL (c := 12) (n := 12) rfl)]
/-- the reference takes the new rows over -/
theorem r_takeOver {s : Nat × Nat} (q : RS σ T s) (hs : s.1 = 0) (hk0 : tK T s.2 = 0) : ∃ b, Lq G (d + 2) M_60 (44, [some (.ref 33), none, none], [], σ) = oI 0 b ∧ pSame [33, 34, 35, 36, 37, 38, 39] σ b ∧ (∀ k, k < 5 → b.1 33 (1 + k) = σ.1 33 (26 + k)) ∧ b.1 33 12 = 0 ∧ b.1 33 54 = -1 ∧ (∀ k, k ≠ 1 → k ≠ 2 → k ≠ 3 → k ≠ 4 → k ≠ 5 → k ≠ 12 → k ≠ 54 → b.1 33 k = σ.1 33 k) ∧ (∀ k, k < 120 → b.1 34 k = σ.1 42 k) ∧ (∀ k, k < 120 → b.1 35 k = σ.1 43 k) ∧ (∀ k, k < 30 → b.1 36 k = σ.1 44 k) ∧ (∀ k, k < 4 → b.1 37 k = σ.1 45 k) ∧ (∀ k, k < 1200 → b.1 38 k = σ.1 46 k) ∧ ∀ k, k < 12 → b.1 39 k = vp_nar .boolean (σ.1 48 k) := by
  have e20 : σ.1 33 20 = Int32.ofNat (tK T s.2) := q.2.2.2.2.2.2.1
  obtain ⟨a, ha⟩ : ∃ a, a = aSI (aSI (aSI (aSI (aSI σ 33 1 (σ.1 33 26)) 33 2 (σ.1 33 27)) 33 3 (σ.1 33 28)) 33 4 (σ.1 33 29)) 33 5 (σ.1 33 30) := ⟨_, rfl⟩
  have fa : pSame [33] σ a := by
    rw [ha]
    exact ((((pSame.rfl'.si (by decide)).si (by decide)).si (by decide)).si (by decide)).si (by decide)
  have ga : ∀ k, k ≠ 1 → k ≠ 2 → k ≠ 3 → k ≠ 4 → k ≠ 5 → a.1 33 k = σ.1 33 k := by
    intro k h1 h2 h3 h4 h5
    rw [ha, pSI_of h5, pSI_of h4, pSI_of h3, pSI_of h2, pSI_of h1]
  have g5 : ∀ k, k < 5 → a.1 33 (1 + k) = σ.1 33 (26 + k) := by
    intro k hk
    rcases (show k = 0 ∨ k = 1 ∨ k = 2 ∨ k = 3 ∨ k = 4 by omega) with rfl | rfl | rfl | rfl | rfl <;> (rw [ha]; simp (decide := true) only [pSI_of, pSI_at])
  obtain ⟨b1, r1, f1, g1⟩ := s_copies (G := G) (d := d + 1) (σ := a) (a := 42) (b := 34) (n := 120) rfl rfl (by decide) (by decide)
  obtain ⟨b2, r2, f2, g2⟩ := s_copies (G := G) (d := d + 1) (σ := b1) (a := 43) (b := 35) (n := 120) rfl rfl (by decide) (by decide)
  obtain ⟨b3, r3, f3, g3⟩ := s_copies (G := G) (d := d + 1) (σ := b2) (a := 44) (b := 36) (n := 30) rfl rfl (by decide) (by decide)
  obtain ⟨b4, r4, f4, g4⟩ := s_copies (G := G) (d := d + 1) (σ := b3) (a := 45) (b := 37) (n := 4) rfl rfl (by decide) (by decide)
  obtain ⟨b5, r5, f5, g5'⟩ := s_copies (G := G) (d := d + 1) (σ := b4) (a := 46) (b := 38) (n := 1200) rfl rfl (by decide) (by decide)
  obtain ⟨b6, r6, f6, g6⟩ := s_lines (G := G) (d := d + 2) (σ := b5)
  have F : pSame [33, 34, 35, 36, 37, 38, 39] σ b6 := (((((fa.mono (by decide)).trans (f1.mono (by decide))).trans (f2.mono (by decide))).trans (f3.mono (by decide))).trans (f4.mono (by decide))).trans ((f5.mono (by decide)).trans (f6.mono (by decide)))
  have e33 : b6.1 33 = a.1 33 := by rw [f6.at (by decide), f5.at (by decide), f4.at (by decide), f3.at (by decide), f2.at (by decide), f1.at (by decide)]
  refine ⟨aSI (aSI b6 33 12 0) 33 54 (-1), ?_, (F.si (by decide)).si (by decide), fun k hk => ?_, ?_, pSI_at, fun k h1 h2 h3 h4 h5 h12 h54 => ?_, fun k hk => ?_, fun k hk => ?_, fun k hk => ?_, fun k hk => ?_, fun k hk => ?_, fun k hk => ?_⟩
  · rw [c_Md_house_44, s_good (d := d + 1) q, pCI, pB0, if_pos hs, e20, hk0, if_pos (show Int32.ofNat 0 = 0 from rfl), s_good (d := d + 1) q, pCI, pB0, if_pos hs, ← ha, r1, pCV, r2, pCV, r3, pCV, r4, pCV, r5, pCV, r6]
  · rw [pSI_of (by omega), pSI_of (by omega), e33, g5 k hk]
  · rw [pSI_of (by decide), pSI_at]
  · rw [pSI_of h54, pSI_of h12, e33, ga k h1 h2 h3 h4 h5]
  · rw [pSI_ne (by decide), pSI_ne (by decide), f6.at (by decide), f5.at (by decide), f4.at (by decide), f3.at (by decide), f2.at (by decide), g1 k hk, fa.at (by decide)]
  · rw [pSI_ne (by decide), pSI_ne (by decide), f6.at (by decide), f5.at (by decide), f4.at (by decide), f3.at (by decide), g2 k hk, f1.at (by decide), fa.at (by decide)]
  · rw [pSI_ne (by decide), pSI_ne (by decide), f6.at (by decide), f5.at (by decide), f4.at (by decide), g3 k hk, f2.at (by decide), f1.at (by decide), fa.at (by decide)]
  · rw [pSI_ne (by decide), pSI_ne (by decide), f6.at (by decide), f5.at (by decide), g4 k hk, f3.at (by decide), f2.at (by decide), f1.at (by decide), fa.at (by decide)]
  · rw [pSI_ne (by decide), pSI_ne (by decide), f6.at (by decide), g5' k hk, f4.at (by decide), f3.at (by decide), f2.at (by decide), f1.at (by decide), fa.at (by decide)]
  · rw [pSI_ne (by decide), pSI_ne (by decide), g6 k hk, f5.at (by decide), f4.at (by decide), f3.at (by decide), f2.at (by decide), f1.at (by decide), fa.at (by decide)]
theorem r_refused {s : Nat × Nat} (q : RS σ T s) (hs : s.1 ≠ 0) : Lq G (d + 1) M_60 (44, [some (.ref 33), none, none], [], σ) = oI (Int32.ofNat s.1) (aSI σ 52 0 (σ.1 52 0 + 1)) := by
  rw [c_Md_house_44, s_good (d := d) q, pCI, pB0, if_neg hs, s_good (d := d) q, pCI, pB0, if_neg hs, q.2.1]
end PHouse
