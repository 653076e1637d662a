/-! ===== the clause of a rule ===== -/
section POff
variable {G : Nat × (Nat → Int32)} {d : Nat} {σ : aH} {T : Tx} {p : Nat} {h : Ho}
theorem cR_gen {i n : Nat} {s2 : Nat × Nat} {a1 a2 : aH} (q : CS σ T (0, p)) (e8 : ∀ k, k < 5 → ∃ m, σ.1 8 k = Int32.ofNat m) (e84 : σ.1 8 4 = Int32.ofNat n) (hw : mWh T (0, p) kdL = Int32.ofNat 4) (hm : n < 4) (hi : i < 700) (k0 : tK T p ≠ 0) (e1 : Rn G (d + 10) 8 [.ref 1] σ = oV a1) (f1 : pSame [1] σ a1) (e2 : Rn G (d + 10) 43 [.ref 11, .ref 1, .ref 7] a1 = oV a2) (f2 : pSame sp5 a1 a2) (g2 : CS a2 T s2) : ∃ b, Lq G (d + 10) M_22 (6, [some (.ref 1), some (.ref 7), some (.ref 11), some (.int (Int32.ofNat i)), none], [], σ) = Lq G (d + 10) M_22 (6, [some (.ref 1), some (.ref 7), some (.ref 11), some (.int (Int32.ofNat (i + 1))), none], [], b) ∧ pSame sp7 σ b ∧ CS b T (mNeed T (tS T s2 59) s2) ∧ (∀ k, b.1 8 k = if k = 4 then Int32.ofNat (n + 1) else σ.1 8 k) ∧ (∀ j, j < 282 + n → b.1 9 j = σ.1 9 j) ∧ b.1 9 (282 + n) = a2.1 7 3 ∧ b.1 7 = a2.1 7 ∧ b.1 10 = a2.1 10 := by
  have e82 : a2.1 8 4 = Int32.ofNat n := by rw [f2.at (by decide), f1.at (by decide), e84]
  have tl := s_tellN (G := G) (d := d + 8) (σ := a2) (k := 4) (n := n) (w := 0) (x1 := 4) (x2 := 0) (v := a2.1 7 3) rfl (by decide) e82 rfl (by show 282 + n * 1 + 0 < 286; omega)
  rw [show pFst 4 + n * pWid 4 + 0 = 282 + n from by show 282 + n * 1 + 0 = _; omega] at tl
  have g2' : CS (aSI a2 9 (282 + n) (a2.1 7 3)) T s2 := CS.ps (os := [9]) g2 (pSame.rfl'.si (by decide)) (by decide) (by decide)
  obtain ⟨a3, e3, f3, g3⟩ := s_takeSemi (G := G) (d := d + 2) g2'
  have a8 : ∀ k, a3.1 8 k = σ.1 8 k := fun k => by rw [f3.at (by decide), pSI_ne (by decide), f2.at (by decide), f1.at (by decide)]
  have e4 := s_close (G := G) (d := d + 8) (σ := a3) (k := 4) (n := n) (x1 := Int32.ofNat 4) rfl (by decide) ((a8 4).trans e84)
  refine ⟨aSI a3 8 4 (Int32.ofNat (n + 1)), ?_, ((((f1.mono (by decide)).trans (f2.mono (by decide))).si (by decide)).trans (f3.mono (by decide))).si (by decide), CS.ps (os := [8]) g3 (pSame.rfl'.si (by decide)) (by decide) (by decide), fun k => ?_, fun j hj => ?_, ?_, ?_, ?_⟩
  · rw [c_Rh_HouseReader_readHouse_6, if_neg (pGoL (c := 700) (n := 700) rfl hi (by decide)), if_pos (q.z.mpr rfl), if_neg (k_n0 q k0), s_kinds (d := d + 5) q, pCI, hw, if_pos (show (0 : Int32) ≤ Int32.ofNat 4 by decide), s_isFull (d := d + 8) (k := 4) (n := n) rfl (by decide) e84 (by omega), pCI, if_pos (show n < pMost 4 from hm), if_pos rfl, e1, pCV, if_neg (by decide), if_neg (by decide), if_neg (by decide), if_neg (by decide), e2, pCV, tl, pCV, e3, pCV, e4, pCV, pN_s]
  · by_cases e : k = 4
    · rw [if_pos e, e, pSI_at]
    · rw [if_neg e, pSI_of e, a8]
  · rw [pSI_ne (by decide), f3.at (by decide), pSI_of (by omega), f2.at (by decide), f1.at (by decide)]
  · rw [pSI_ne (by decide), f3.at (by decide), pSI_at]
  · rw [pSI_ne (by decide), f3.at (by decide), pSI_ne (by decide)]
  · rw [pSI_ne (by decide), f3.at (by decide), pSI_ne (by decide)]
theorem rR_gen {n : Nat} {s2 : Nat × Nat} {v : Int32} {a1 a2 : aH} (q : RS σ T (0, p)) (ec : σ.1 33 30 = Int32.ofNat n) (hw : kn T (tQ T p) = 32) (hm : n < 4) (e1' : Rn G (d + 6) 63 [.ref 33] σ = oV a1) (f1 : rFr σ a1) (e2 : Rn G (d + 6) 83 [.ref 33] a1 = oI v a2) (f2 : rRu 0 a1 a2) (g2 : RS a2 T s2) : ∃ b, Rn G (d + 8) 68 [.ref 33] σ = oV b ∧ rHF σ b ∧ RS b T (mNeed T (tS T s2 59) s2) ∧ (s2.1 = 0 → (∀ k, k < 5 → b.1 33 (26 + k) = if k = 4 then Int32.ofNat (n + 1) else σ.1 33 (26 + k)) ∧ b.1 42 = σ.1 42 ∧ b.1 43 = σ.1 43 ∧ b.1 44 = σ.1 44 ∧ b.1 48 = σ.1 48 ∧ (∀ i, i < n → b.1 45 i = σ.1 45 i) ∧ b.1 45 n = v ∧ b.1 33 31 = a2.1 33 31 ∧ b.1 46 = a2.1 46) := by
  have nf : ¬ Int32.ofNat n = 4 := fun e => absurd ((pEqL (c := 4) (n := 4) rfl (by decide) (by omega)).mp e) (by omega)
  have c1 : a1.1 33 30 = Int32.ofNat n := (f1.2 30 (by omega)).trans ec
  have c2 : a2.1 33 30 = Int32.ofNat n := (f2.2.1 30 (by omega)).trans c1
  have g3 : RS (aSI a2 45 n v) T s2 := RS.ps (os := [45]) g2 (pSame.rfl'.si (by decide)) (by decide) (by decide)
  have hd : Rn G (d + 8) 68 [.ref 33] σ = aCV (if s2.1 = 0 then oV (aSI (aSI a2 45 n v) 33 30 (Int32.ofNat (n + 1))) else oV (aSI a2 45 n v)) fun σ19 => aCI (Rn G (d + 7) 85 [.ref 33, .int 59] σ19) fun v21 σ20 => aCV (Rn G (d + 7) 75 [.ref 33, .int v21] σ20) fun σ22 => (oV σ22 : Option (aRs × aH)) := by
    rw [e_Md_clause, s_known (d := d + 4) q, pCI, show kn T (tQ T (0, p).2) = 32 from hw, if_neg (by decide), if_neg (by decide), if_neg (by decide), if_neg (by decide), if_pos rfl, e_Md_readsOff, ec, if_neg nf, s_good (d := d + 5) q, pCI, pB0, if_pos rfl, e1', pCV, e2, pCI, c1, pIx (by omega) (by decide), s_good (d := d + 5) g3, pCI, pB0, pSI_ne (by decide), c2, pN_s]
  by_cases hz : s2.1 = 0
  · have g4 : RS (aSI (aSI a2 45 n v) 33 30 (Int32.ofNat (n + 1))) T s2 := g3.s33 (by decide)
    obtain ⟨b, e3, f3, g5⟩ := s_semiR (G := G) (d := d + 4) g4
    refine ⟨b, ?_, ⟨(((f1.1.mono (by decide)).trans (f2.1.mono (by decide))).trans ((pSame.rfl'.si (by decide)).si (by decide))).trans (f3.1.mono (by decide)), fun k hk => ?_⟩, g5, fun _ => ⟨fun k hk => ?_, ?_, ?_, ?_, ?_, fun i hi => ?_, ?_, ?_, ?_⟩⟩
    · rw [hd, if_pos hz, pCV]
      exact e3
    · rw [f3.2 k (by omega), pSI_of (by omega), pSI_ne (by decide), f2.2.1 k (by omega), f1.2 k (by omega)]
    · rw [f3.2 (26 + k) (by omega)]
      by_cases e : k = 4
      · rw [if_pos e, e, pSI_at]
      · rw [if_neg e, pSI_of (by omega), pSI_ne (by decide), f2.2.1 (26 + k) (by omega), f1.2 (26 + k) (by omega)]
    · rw [f3.1.at (by decide), pSI_ne (by decide), pSI_ne (by decide), f2.1.at (by decide), f1.1.at (by decide)]
    · rw [f3.1.at (by decide), pSI_ne (by decide), pSI_ne (by decide), f2.1.at (by decide), f1.1.at (by decide)]
    · rw [f3.1.at (by decide), pSI_ne (by decide), pSI_ne (by decide), f2.1.at (by decide), f1.1.at (by decide)]
    · rw [f3.1.at (by decide), pSI_ne (by decide), pSI_ne (by decide), f2.1.at (by decide), f1.1.at (by decide)]
    · rw [f3.1.at (by decide), pSI_ne (by decide), pSI_of (by omega), f2.1.at (by decide), f1.1.at (by decide)]
    · rw [f3.1.at (by decide), pSI_ne (by decide), pSI_at]
    · rw [f3.2 31 (by omega), pSI_of (by decide), pSI_ne (by decide)]
    · rw [f3.1.at (by decide), pSI_ne (by decide), pSI_ne (by decide)]
  · obtain ⟨b, e3, f3, g5⟩ := s_semiR (G := G) (d := d + 4) g3
    refine ⟨b, ?_, ⟨(((f1.1.mono (by decide)).trans (f2.1.mono (by decide))).trans (pSame.rfl'.si (by decide))).trans (f3.1.mono (by decide)), fun k hk => ?_⟩, g5, fun h => absurd h hz⟩
    · rw [hd, if_neg hz, pCV]
      exact e3
    · rw [f3.2 k (by omega), pSI_ne (by decide), f2.2.1 k (by omega), f1.2 k (by omega)]
/-- no kind stands here -/
theorem rc_none (q : RS σ T (0, p)) (h0 : ¬ kn T (tQ T p) = 12) (h1 : ¬ kn T (tQ T p) = 19) (h2 : ¬ kn T (tQ T p) = 24) (h3 : ¬ kn T (tQ T p) = 31) (h4 : ¬ kn T (tQ T p) = 32) : ∃ b, Rn G (d + 8) 68 [.ref 33] σ = oV b ∧ rHF σ b ∧ RS b T (1, p) := by
  obtain ⟨a, e, f, g⟩ := s_wrong (G := G) (d := d + 6) q (x := 1) (c := 1) rfl (by decide) (by decide)
  obtain ⟨b, e2, f2, g2⟩ := r_semiBad (G := G) (d := d) (show RS a T (1, p) from g) (by decide : (1 : Nat) ≠ 0)
  have h0 : ¬ kn T (tQ T (0, p).2) = 12 := h0
  have h1 : ¬ kn T (tQ T (0, p).2) = 19 := h1
  have h2 : ¬ kn T (tQ T (0, p).2) = 24 := h2
  have h3 : ¬ kn T (tQ T (0, p).2) = 31 := h3
  have h4 : ¬ kn T (tQ T (0, p).2) = 32 := h4
  refine ⟨b, ?_, f.hf.trans f2, g2⟩
  rw [e_Md_clause, s_known (d := d + 4) q, pCI, if_neg h0, if_neg h1, if_neg h2, if_neg h3, if_neg h4, e, pCV]
  exact e2
/-- too many of a kind -/
theorem rc_full (q : RS σ T (0, p)) : (kn T (tQ T p) = 12 → σ.1 33 26 = 20 → ∃ b, Rn G (d + 8) 68 [.ref 33] σ = oV b ∧ rHF σ b ∧ RS b T (2, p)) ∧ (kn T (tQ T p) = 19 → σ.1 33 27 = 20 → ∃ b, Rn G (d + 8) 68 [.ref 33] σ = oV b ∧ rHF σ b ∧ RS b T (2, p)) ∧ (kn T (tQ T p) = 24 → σ.1 33 28 = 6 → ∃ b, Rn G (d + 8) 68 [.ref 33] σ = oV b ∧ rHF σ b ∧ RS b T (2, p)) ∧ (kn T (tQ T p) = 31 → σ.1 33 29 = 12 → ∃ b, Rn G (d + 8) 68 [.ref 33] σ = oV b ∧ rHF σ b ∧ RS b T (2, p)) ∧ (kn T (tQ T p) = 32 → σ.1 33 30 = 4 → ∃ b, Rn G (d + 8) 68 [.ref 33] σ = oV b ∧ rHF σ b ∧ RS b T (2, p)) := by
  obtain ⟨a, e, f, g⟩ := s_wrong (G := G) (d := d + 5) q (x := 2) (c := 2) rfl (by decide) (by decide)
  have g : RS a T (2, p) := g
  have n2 : ((2, p) : Nat × Nat).1 ≠ 0 := (by decide : (2 : Nat) ≠ 0)
  obtain ⟨b, e2, f2, g2⟩ := r_semiBad (G := G) (d := d) g n2
  refine ⟨fun hw hc => ⟨b, ?_, f.hf.trans f2, g2⟩, fun hw hc => ⟨b, ?_, f.hf.trans f2, g2⟩, fun hw hc => ⟨b, ?_, f.hf.trans f2, g2⟩, fun hw hc => ⟨b, ?_, f.hf.trans f2, g2⟩, fun hw hc => ⟨b, ?_, f.hf.trans f2, g2⟩⟩
  · rw [e_Md_clause, s_known (d := d + 4) q, pCI, show kn T (tQ T (0, p).2) = 12 from hw, if_pos rfl, e_Md_readsPerson, hc, if_pos rfl, e, pCV, s_good (d := d + 5) g, pCI, pB0, if_neg n2, pCV]
    exact e2
  · rw [e_Md_clause, s_known (d := d + 4) q, pCI, show kn T (tQ T (0, p).2) = 19 from hw, if_neg (by decide), if_pos rfl, e_Md_readsSitting, hc, if_pos rfl, e, pCV, s_good (d := d + 5) g, pCI, pB0, if_neg n2, pCV]
    exact e2
  · rw [e_Md_clause, s_known (d := d + 4) q, pCI, show kn T (tQ T (0, p).2) = 24 from hw, if_neg (by decide), if_neg (by decide), if_pos rfl, e_Md_readsLaw, hc, if_pos rfl, e, pCV, s_good (d := d + 5) g, pCI, pB0, if_neg n2, pCV]
    exact e2
  · rw [e_Md_clause, s_known (d := d + 4) q, pCI, show kn T (tQ T (0, p).2) = 31 from hw, if_neg (by decide), if_neg (by decide), if_neg (by decide), if_pos rfl, e_Md_readsLine, hc, if_pos rfl, e, pCV, s_good (d := d + 5) g, pCI, pB0, if_neg n2, pCV]
    exact e2
  · rw [e_Md_clause, s_known (d := d + 4) q, pCI, show kn T (tQ T (0, p).2) = 32 from hw, if_neg (by decide), if_neg (by decide), if_neg (by decide), if_neg (by decide), if_pos rfl, e_Md_readsOff, hc, if_pos rfl, e, pCV, s_good (d := d + 5) g, pCI, pB0, if_neg n2, pCV]
    exact e2
end POff
