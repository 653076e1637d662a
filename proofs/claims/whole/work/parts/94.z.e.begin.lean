/-! ===== the begin of a reading, on both sides ===== -/
def hNil : Ho := (fun _ => 0, fun _ => 0, fun _ => 0, fun _ => 0, fun _ => false, fun _ => [])
theorem okH_nil : okH hNil 0 := ⟨⟨⟨Nat.zero_le _, Nat.zero_le _, Nat.zero_le _, Nat.zero_le _, Nat.zero_le _⟩, fun p h => absurd h (Nat.not_lt_zero p), fun p h => absurd h (Nat.not_lt_zero p), fun p h => absurd h (Nat.not_lt_zero p), fun p h => absurd h (Nat.not_lt_zero p)⟩, Nat.le_refl 0, Nat.le_refl 0⟩
section PBegin
variable {G : Nat × (Nat → Int32)} {d : Nat} {σ : aH} {N : Nat} {B : Nat → Int32}
theorem c_opens (hN : N ≤ 700) (hb : ∀ i, i < N → σ.1 2 i &&& 255 = B i) : ∃ a, Rn G (d + 8) 7 [.ref 1, .int (Int32.ofNat N)] σ = oV a ∧ pSame [1] σ a ∧ CS a (N, B) (0, 0) := by
  have q : cB (aSI (aSI (aSI σ 1 6 (Int32.ofNat N)) 1 2 0) 1 7 0) (N, B) := by
    refine ⟨?_, hN, fun i hi => ?_⟩
    · rw [pSI_of (by decide), pSI_of (by decide), pSI_at]
    · rw [pSI_ne (by decide), pSI_ne (by decide), pSI_ne (by decide)]
      exact hb i hi
  have f0 : pSame [1] σ (aSI (aSI (aSI σ 1 6 (Int32.ofNat N)) 1 2 0) 1 7 0) := ((pSame.rfl'.si (by decide)).si (by decide)).si (by decide)
  have e7 : (aSI (aSI (aSI σ 1 6 (Int32.ofNat N)) 1 2 0) 1 7 0).1 1 7 = Int32.ofNat 0 := pSI_at
  have e2 : (aSI (aSI (aSI σ 1 6 (Int32.ofNat N)) 1 2 0) 1 7 0).1 1 2 = 0 := by rw [pSI_of (by decide), pSI_at]
  obtain ⟨b, e, f, g, g2, g6⟩ := s_advLoop (G := G) (d := d) (T := (N, B)) N 0 _ (Nat.zero_add N) q e7
  refine ⟨b, ?_, f0.trans f, q.same g6 (f.at (by decide)), g2.trans e2, (by decide : 0 < 5), Nat.zero_le _, g⟩
  rw [e_Rh_Tape_open, e_Rh_Tape_advance, if_pos e2, e7, e, pCV]
theorem c_clears : ∃ b, Rn G (d + 2) 23 [.ref 7] σ = oV b ∧ pSame [7, 8] σ b ∧ cHb b hNil := by
  refine ⟨aSI (aSI (aSI (aSI (aSI (aSI σ 8 0 0) 8 1 0) 8 2 0) 8 3 0) 8 4 0) 7 3 0, ?_, (((((pSame.rfl'.si (by decide)).si (by decide)).si (by decide)).si (by decide)).si (by decide)).si (by decide), fun k hk => ?_, fun p h => absurd h (Nat.not_lt_zero p), fun p h => absurd h (Nat.not_lt_zero p), fun p h => absurd h (Nat.not_lt_zero p), fun p h => absurd h (Nat.not_lt_zero p), pSI_at, fun p h => absurd h (Nat.not_lt_zero p)⟩
  · rw [e_Rh_House_clear, c_Rh_House_clear_2, if_neg (by decide), s_put (r := 8) (n := 5) (x := 0) (i := 0) rfl rfl (by decide) (by decide), pCV, c_Rh_House_clear_2, if_neg (by decide), s_put (r := 8) (n := 5) (x := 0 + 1) (i := 1) rfl rfl (by decide) (by decide), pCV, c_Rh_House_clear_2, if_neg (by decide), s_put (r := 8) (n := 5) (x := 0 + 1 + 1) (i := 2) rfl rfl (by decide) (by decide), pCV, c_Rh_House_clear_2, if_neg (by decide), s_put (r := 8) (n := 5) (x := 0 + 1 + 1 + 1) (i := 3) rfl rfl (by decide) (by decide), pCV, c_Rh_House_clear_2, if_neg (by decide), s_put (r := 8) (n := 5) (x := 0 + 1 + 1 + 1 + 1) (i := 4) rfl rfl (by decide) (by decide), pCV, c_Rh_House_clear_2, if_pos (by decide)]
  · rw [pSI_ne (by decide)]
    show _ = (0 : Int32)
    rcases (show k = 0 ∨ k = 1 ∨ k = 2 ∨ k = 3 ∨ k = 4 by omega) with rfl | rfl | rfl | rfl | rfl <;> simp (decide := true) only [pSI_of, pSI_at]
theorem c_hBegin (hN : N ≤ 700) (hb : ∀ i, i < N → σ.1 2 i &&& 255 = B i) : ∃ a b, Rn G (d + 11) 7 [.ref 1, .int (Int32.ofNat N)] σ = oV a ∧ Rn G (d + 11) 22 [.ref 1, .ref 7, .ref 11] a = Lq G (d + 10) M_22 (6, [some (.ref 1), some (.ref 7), some (.ref 11), some (.int (Int32.ofNat 0)), none], [], b) ∧ pSame sp7 σ b ∧ CS b (N, B) (0, 0) ∧ cHb b hNil := by
  obtain ⟨a, e1, f1, g1⟩ := c_opens (G := G) (d := d + 3) hN hb
  obtain ⟨b, e2, f2, g2⟩ := c_clears (G := G) (d := d + 8) (σ := a)
  refine ⟨a, b, e1, ?_, (f1.mono (by decide)).trans (f2.mono (by decide)), g1.ps f2 (by decide) (by decide), g2⟩
  rw [e_Rh_HouseReader_readHouse, e2, pCV]
  rfl
/-- the reference's -/
theorem r_begins {n : Nat} (e15 : σ.1 33 15 = Int32.ofNat n) (hn : n ≤ 700) (hN : N ≤ n) : Rn G (d + 2) 61 [.ref 33, .int (Int32.ofNat N)] σ = oI 1 (aSI (aSI (aSI (aSI (aSI (aSI σ 33 0 0) 33 15 0) 33 17 (-1)) 33 16 0) 33 18 (Int32.ofNat N)) 33 19 0) := by
  rw [e_Md_begins0, if_neg (pN_n0 (by omega)), e15, if_neg (fun h => absurd ((pN_lt (by omega) (by omega)).mp h) (by omega)), s_r1, pCI, if_neg (by decide)]
theorem r_hBegin {n : Nat} (e15 : σ.1 33 15 = Int32.ofNat n) (hn : n ≤ 700) (hN : N ≤ n) (hb : ∀ i, i < N → σ.1 41 i = B i) : ∃ b, Rn G (d + 9) 60 [.ref 33, .int (Int32.ofNat N)] σ = Lq G (d + 8) M_60 (44, [some (.ref 33), none, none], [], b) ∧ pSame [33] σ b ∧ RS b (N, B) (0, 0) ∧ rHb b hNil ∧ (∀ k, k ∈ [1, 2, 3, 4, 5, 12, 54] → b.1 33 k = σ.1 33 k) ∧ b.1 33 0 = 0 ∧ b.1 33 15 = 0 := by
  obtain ⟨a, ha⟩ : ∃ a, a = aSI (aSI (aSI (aSI (aSI (aSI (aSI (aSI (aSI (aSI (aSI (aSI σ 33 0 0) 33 15 0) 33 17 (-1)) 33 16 0) 33 18 (Int32.ofNat N)) 33 19 0) 33 26 0) 33 27 0) 33 28 0) 33 29 0) 33 30 0) 33 31 0 := ⟨_, rfl⟩
  have fa : pSame [33] σ a := by
    rw [ha]
    exact (((((((((((pSame.rfl'.si (by decide)).si (by decide)).si (by decide)).si (by decide)).si (by decide)).si (by decide)).si (by decide)).si (by decide)).si (by decide)).si (by decide)).si (by decide)).si (by decide)
  have g : ∀ k, k ∉ [0, 15, 17, 16, 18, 19, 26, 27, 28, 29, 30, 31] → a.1 33 k = σ.1 33 k := by
    intro k hk
    simp only [List.mem_cons, List.not_mem_nil, or_false, not_or] at hk
    obtain ⟨h0, h1, h2, h3, h4, h5, h6, h7, h8, h9, h10, h11⟩ := hk
    rw [ha, pSI_of h11, pSI_of h10, pSI_of h9, pSI_of h8, pSI_of h7, pSI_of h6, pSI_of h5, pSI_of h4, pSI_of h3, pSI_of h2, pSI_of h1, pSI_of h0]
  have e0 : a.1 33 0 = 0 := by rw [ha]; simp (decide := true) only [pSI_of, pSI_at]
  have e15' : a.1 33 15 = 0 := by rw [ha]; simp (decide := true) only [pSI_of, pSI_at]
  have e16 : a.1 33 16 = 0 := by rw [ha]; simp (decide := true) only [pSI_of, pSI_at]
  have e17 : a.1 33 17 = -1 := by rw [ha]; simp (decide := true) only [pSI_of, pSI_at]
  have e18 : a.1 33 18 = Int32.ofNat N := by rw [ha]; simp (decide := true) only [pSI_of, pSI_at]
  have e19 : a.1 33 19 = Int32.ofNat 0 := by
    rw [ha]
    simp (decide := true) only [pSI_of, pSI_at]
  have e26 : ∀ k, k < 6 → a.1 33 (26 + k) = 0 := by
    intro k hk
    rcases (show k = 0 ∨ k = 1 ∨ k = 2 ∨ k = 3 ∨ k = 4 ∨ k = 5 by omega) with rfl | rfl | rfl | rfl | rfl | rfl <;> (rw [ha]; simp (decide := true) only [pSI_of, pSI_at])
  have rb : rB a (N, B) := ⟨e18, by show N ≤ 700; omega, fun i hi => by rw [fa.at (by decide)]; exact hb i hi⟩
  obtain ⟨b, e, f, q⟩ := s_goes0 (G := G) (d := d + 6) (a := 0) rb e16 e17 (Nat.zero_le _) e19
  refine ⟨b, ?_, fa.trans f.1, q, ⟨fun k hk => ?_, fun p h => absurd h (Nat.not_lt_zero p), fun p h => absurd h (Nat.not_lt_zero p), fun p h => absurd h (Nat.not_lt_zero p), fun p h => absurd h (Nat.not_lt_zero p), ?_, fun p h => absurd h (Nat.not_lt_zero p)⟩, fun k hk => ?_, ?_, ?_⟩
  · rw [e_Md_house, r_begins (d := d + 6) e15 hn hN, pCI, if_neg (by decide), ← ha, e, pCV]
  · rw [f.2 (26 + k) (by omega), e26 k (by omega)]
    rfl
  · rw [f.2 31 (by omega)]
    exact e26 5 (by decide)
  · have h1 : k < 16 ∨ k = 18 ∨ 25 < k := by
      simp only [List.mem_cons, List.not_mem_nil, or_false] at hk
      omega
    rw [f.2 k h1, g k (fun h => by
      simp only [List.mem_cons, List.not_mem_nil, or_false] at hk h
      omega)]
  · rw [f.2 0 (by omega), e0]
  · rw [f.2 15 (by omega), e15']
end PBegin
