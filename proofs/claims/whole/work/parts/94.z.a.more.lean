/-! ===== clauses of lines and rules; clauses that have a fault ===== -/
section PMore
variable {G : Nat × (Nat → Int32)} {d : Nat} {σ : aH} {T : Tx} {p : Nat} {h : Ho}
def zN1 (T : Tx) (s : Nat × Nat) : Nat × Nat := mNeed T (decide (0 ≤ mWh T s [0, 1])) s
def vN1 (T : Tx) (s : Nat × Nat) : Bool := decide (mWh T s [0, 1] = 1)
theorem mW01 {s : Nat × Nat} : mWh T s [0, 1] = if tW T s 0 = true then 0 else if tW T s 1 = true then 1 else -1 := rfl
theorem ci_N {i : Nat} (q : CS σ T (0, p)) (qh : cHb σ h) (hk : Hok h) (hw : mWh T (0, p) kdL = Int32.ofNat 3) (hm : hn h 3 < 12) (hi : i < 700) (k0 : tK T p ≠ 0) : ∃ b, Lq G (d + 10) M_22 (6, [some (.ref 1), some (.ref 7), some (.ref 11), some (.int (Int32.ofNat i)), none], [], σ) = Lq G (d + 10) M_22 (6, [some (.ref 1), some (.ref 7), some (.ref 11), some (.int (Int32.ofNat (i + 1))), none], [], b) ∧ pSame sp7 σ b ∧ CS b T (mNeed T (tS T (zN1 T (0, tE T p)) 59) (zN1 T (0, tE T p))) ∧ ((mNeed T (tS T (zN1 T (0, tE T p)) 59) (zN1 T (0, tE T p))).1 = 0 → cHb b (puN h (vN1 T (0, tE T p)))) := by
  have e8 : σ.1 8 3 = Int32.ofNat (hn h 3) := qh.1 3 (by decide)
  obtain ⟨a1, e1, f1, g1⟩ := s_adv (G := G) (d := d + 3) q
  have g1 : CS a1 T (0, tE T p) := g1
  obtain ⟨a2, e2, f2, g2⟩ := s_takeAm (G := G) (d := d + 2) (r := 72) (xs := [0, 1]) so_72 (by decide) (by decide) g1
  have e82 : a2.1 8 3 = Int32.ofNat (hn h 3) := by rw [f2.at (by decide), f1.at (by decide), e8]
  have tl := s_tellN (G := G) (d := d + 8) (σ := a2) (k := 3) (n := hn h 3) (w := 0) (x1 := 3) (x2 := 0) (v := mWh T (0, tE T p) [0, 1]) rfl (by decide) e82 rfl (by show 270 + hn h 3 * 1 + 0 < 286; omega)
  rw [show pFst 3 + hn h 3 * pWid 3 + 0 = 270 + hn h 3 from by show 270 + hn h 3 * 1 + 0 = _; omega] at tl
  have g2' : CS (aSI a2 9 (270 + hn h 3) (mWh T (0, tE T p) [0, 1])) T (zN1 T (0, tE T p)) := CS.ps (os := [9]) g2 (pSame.rfl'.si (by decide)) (by decide) (by decide)
  obtain ⟨a3, e3, f3, g3⟩ := s_takeSemi (G := G) (d := d + 2) g2'
  have a8 : ∀ k, a3.1 8 k = σ.1 8 k := fun k => by rw [f3.at (by decide), pSI_ne (by decide), f2.at (by decide), f1.at (by decide)]
  have e4 := s_close (G := G) (d := d + 8) (σ := a3) (k := 3) (n := hn h 3) (x1 := Int32.ofNat 3) rfl (by decide) ((a8 3).trans e8)
  refine ⟨aSI a3 8 3 (Int32.ofNat (hn h 3 + 1)), ?_, ((((f1.mono (by decide)).trans (f2.mono (by decide))).si (by decide)).trans (f3.mono (by decide))).si (by decide), CS.ps (os := [8]) g3 (pSame.rfl'.si (by decide)) (by decide) (by decide), fun hz => ?_⟩
  · rw [c_Rh_HouseReader_readHouse_6, if_neg (pGoL (c := 700) (n := 700) rfl hi (by decide)), if_pos (q.z.mpr rfl), if_neg (k_n0 q k0), s_kinds (d := d + 5) q, pCI, hw, if_pos (show (0 : Int32) ≤ Int32.ofNat 3 by decide), s_isFull (d := d + 8) (k := 3) (n := hn h 3) rfl (by decide) e8 (by omega), pCI, if_pos (show hn h 3 < pMost 3 from hm), if_pos rfl, e1, pCV, if_neg (by decide), if_neg (by decide), if_neg (by decide), if_pos (show Int32.ofNat 3 = 3 from rfl), e2, pCI, tl, pCV, e3, pCV, e4, pCV, pN_s]
  · have m0 : 0 ≤ mWh T (0, tE T p) [0, 1] := of_decide_eq_true (mNeed_0 (mNeed_0 hz).1).2.1
    refine cHb_puN _ qh hk.1 hm (fun k hk5 => ?_) (fun t ht => ?_) ?_ ?_ ?_
    · by_cases e : k = 3
      · rw [if_pos e, e, pSI_at]
      · rw [if_neg e, pSI_of e, a8]
    · rw [pSI_ne (by decide), f3.at (by decide), pSI_of (by omega), f2.at (by decide), f1.at (by decide)]
    · rw [pSI_ne (by decide), f3.at (by decide), pSI_at]
      unfold vN1
      rw [mW01] at m0 ⊢
      by_cases h0 : tW T (0, tE T p) 0 = true
      · rw [if_pos h0]
        rfl
      · rw [if_neg h0] at m0 ⊢
        by_cases h1 : tW T (0, tE T p) 1 = true
        · rw [if_pos h1]
          rfl
        · rw [if_neg h1] at m0
          exact absurd m0 (by decide)
    · rw [pSI_ne (by decide), f3.at (by decide), pSI_ne (by decide), f2.at (by decide), f1.at (by decide)]
    · rw [pSI_ne (by decide), f3.at (by decide), pSI_ne (by decide), f2.at (by decide), f1.at (by decide)]
theorem rc_N (q : RS σ T (0, p)) (qh : rHb σ h) (hw : kn T (tQ T p) = 31) (hm : hn h 3 < 12) : ∃ b, Rn G (d + 8) 68 [.ref 33] σ = oV b ∧ rHF σ b ∧ RS b T (mNeed T (tS T (zN1 T (0, tE T p)) 59) (zN1 T (0, tE T p))) ∧ ((mNeed T (tS T (zN1 T (0, tE T p)) 59) (zN1 T (0, tE T p))).1 = 0 → rHb b (puN h (vN1 T (0, tE T p)))) := by
  have ec : σ.1 33 29 = Int32.ofNat (hn h 3) := qh.1 3 (by decide)
  have nf : ¬ Int32.ofNat (hn h 3) = 12 := fun e => absurd ((pEqL (c := 12) (n := 12) rfl (by decide) (by omega)).mp e) (by omega)
  obtain ⟨a, ea, fa, ga⟩ := s_goes (G := G) (d := d + 4) q rfl
  have ga : RS a T (0, tE T p) := ga
  have ca : a.1 33 29 = Int32.ofNat (hn h 3) := (fa.2 29 (by omega)).trans ec
  have k0 := s_knW ga (x := 0) (c := 0) (by decide) rfl
  have k1 := s_knW ga (x := 1) (c := 1) (by decide) rfl
  obtain ⟨bt, et, ft, gt⟩ := s_need (G := G) (d := d + 3) ga (b := true)
  obtain ⟨bf, ef, ff, gf⟩ := s_need (G := G) (d := d + 3) ga (b := false)
  have et : Rn G (d + 6) 75 [.ref 33, .int 1] a = oV bt := et
  have ef : Rn G (d + 6) 75 [.ref 33, .int 0] a = oV bf := ef
  -- the row, and the semicolon
  have fin : ∀ (y : Int32) (bl : Bool), mWh T (0, tE T p) [0, 1] = y → 0 ≤ y → bl = decide (y = 1) → (y = if bl = true then 1 else 0) → ∃ b, (aCI (Rn G (d + 7) 85 [.ref 33, .int 59] (aSI (aSI bt 48 (hn h 3) y) 33 29 (Int32.ofNat (hn h 3 + 1)))) fun v5 σ4 => aCV (Rn G (d + 7) 75 [.ref 33, .int v5] σ4) fun σ6 => (oV σ6 : Option (aRs × aH))) = oV b ∧ rHF σ b ∧ RS b T (mNeed T (tS T (zN1 T (0, tE T p)) 59) (zN1 T (0, tE T p))) ∧ ((mNeed T (tS T (zN1 T (0, tE T p)) 59) (zN1 T (0, tE T p))).1 = 0 → rHb b (puN h (vN1 T (0, tE T p)))) := by
    intro y bl hy y0 hbl hyb
    have zt : zN1 T (0, tE T p) = mNeed T true (0, tE T p) := by
      unfold zN1
      rw [hy, show decide ((0 : Int32) ≤ y) = true from decide_eq_true y0]
    have g5 : RS (aSI (aSI bt 48 (hn h 3) y) 33 29 (Int32.ofNat (hn h 3 + 1))) T (zN1 T (0, tE T p)) := by
      rw [zt]
      exact (RS.ps (os := [48]) gt (pSame.rfl'.si (by decide)) (by decide) (by decide)).s33 (by decide)
    obtain ⟨b, e2, f2, g2⟩ := s_semiR (G := G) (d := d + 4) g5
    refine ⟨b, e2, ⟨(((fa.1.mono (by decide)).trans (ft.1.mono (by decide))).trans ((pSame.rfl'.si (by decide)).si (by decide))).trans (f2.1.mono (by decide)), fun k hk => ?_⟩, g2, fun _ => ?_⟩
    · rw [f2.2 k (by omega), pSI_of (by omega), pSI_ne (by decide), ft.2 k (by omega), fa.2 k (by omega)]
    · have ev : vN1 T (0, tE T p) = bl := by
        unfold vN1
        rw [hy, hbl]
      rw [ev]
      refine rHb_puN _ qh (fun k hk5 => ?_) (fun t ht => ?_) ?_ ?_ ?_ ?_ ?_ ?_ ?_
      · rw [f2.2 (26 + k) (by omega)]
        by_cases e : k = 3
        · rw [if_pos e, e, pSI_at]
        · rw [if_neg e, pSI_of (by omega), pSI_ne (by decide), ft.2 (26 + k) (by omega), fa.2 (26 + k) (by omega)]
      · rw [f2.1.at (by decide), pSI_ne (by decide), pSI_of (by omega), ft.1.at (by decide), fa.1.at (by decide)]
      · rw [f2.1.at (by decide), pSI_ne (by decide), pSI_at, hyb]
      · rw [f2.1.at (by decide), pSI_ne (by decide), pSI_ne (by decide), ft.1.at (by decide), fa.1.at (by decide)]
      · rw [f2.1.at (by decide), pSI_ne (by decide), pSI_ne (by decide), ft.1.at (by decide), fa.1.at (by decide)]
      · rw [f2.1.at (by decide), pSI_ne (by decide), pSI_ne (by decide), ft.1.at (by decide), fa.1.at (by decide)]
      · rw [f2.2 31 (by omega), pSI_of (by decide), pSI_ne (by decide), ft.2 31 (by omega), fa.2 31 (by omega)]
      · rw [f2.1.at (by decide), pSI_ne (by decide), pSI_ne (by decide), ft.1.at (by decide), fa.1.at (by decide)]
      · rw [f2.1.at (by decide), pSI_ne (by decide), pSI_ne (by decide), ft.1.at (by decide), fa.1.at (by decide)]
  have tg : (mNeed T true (0, tE T p)).1 = 0 := rfl
  have c29 : bt.1 33 29 = Int32.ofNat (hn h 3) := (ft.2 29 (by omega)).trans ca
  rw [e_Md_clause, s_known (d := d + 4) q, pCI, show kn T (tQ T (0, p).2) = 31 from hw, if_neg (by decide), if_neg (by decide), if_neg (by decide), if_pos rfl, e_Md_readsLine, ec, if_neg nf, s_good (d := d + 5) q, pCI, pB0, if_pos rfl, ea, pCV, s_known (d := d + 3) ga, pCI]
  by_cases h0 : tW T (0, tE T p) 0 = true
  · rw [k0.mpr h0, if_pos rfl, et, pCV, s_good (d := d + 5) gt, pCI, pB0, if_pos tg, if_neg (by decide), c29, pIx (by omega) (by decide), pN_s, pCV]
    exact fin 0 false (by rw [mW01, if_pos h0]) (by decide) rfl rfl
  · have n0 : ¬ kn T (tQ T (0, tE T p).2) = 0 := fun e => h0 (k0.mp e)
    by_cases h1 : tW T (0, tE T p) 1 = true
    · rw [k1.mpr h1, if_neg (by decide), if_pos rfl, et, pCV, s_good (d := d + 5) gt, pCI, pB0, if_pos tg, if_pos rfl, c29, pIx (by omega) (by decide), pN_s, pCV]
      exact fin 1 true (by rw [mW01, if_neg h0, if_pos h1]) (by decide) rfl rfl
    · have n1 : ¬ kn T (tQ T (0, tE T p).2) = 1 := fun e => h1 (k1.mp e)
      have zf : zN1 T (0, tE T p) = mNeed T false (0, tE T p) := by
        unfold zN1
        rw [mW01, if_neg h0, if_neg h1]
        rfl
      have nb : ¬ (mNeed T false (0, tE T p)).1 = 0 := fun e => absurd (mNeed_0 e).2.1 (by decide)
      rw [if_neg n0, if_neg n1, ef, pCV, s_good (d := d + 5) gf, pCI, pB0, if_neg nb, pCV]
      rw [← zf] at gf nb
      obtain ⟨b, e2, f2, g2⟩ := s_semiR (G := G) (d := d + 4) gf
      refine ⟨b, e2, (fa.hf.trans ff.hf).trans f2.hf, g2, fun e => absurd (mNeed_0 e).1 nb⟩
/-- no kind, or too many of a kind -/
theorem ci_bad {i : Nat} (q : CS σ T (0, p)) (hi : i < 700) (k0 : tK T p ≠ 0) : (¬ 0 ≤ mWh T (0, p) kdL → ∃ b, Lq G (d + 10) M_22 (6, [some (.ref 1), some (.ref 7), some (.ref 11), some (.int (Int32.ofNat i)), none], [], σ) = Lq G (d + 10) M_22 (6, [some (.ref 1), some (.ref 7), some (.ref 11), some (.int (Int32.ofNat (i + 1))), none], [], b) ∧ pSame sp7 σ b ∧ CS b T (1, p)) ∧ ∀ k, k < 5 → mWh T (0, p) kdL = Int32.ofNat k → ∀ n, σ.1 8 k = Int32.ofNat n → n < 100 → ¬ n < pMost k → ∃ b, Lq G (d + 10) M_22 (6, [some (.ref 1), some (.ref 7), some (.ref 11), some (.int (Int32.ofNat i)), none], [], σ) = Lq G (d + 10) M_22 (6, [some (.ref 1), some (.ref 7), some (.ref 11), some (.int (Int32.ofNat (i + 1))), none], [], b) ∧ pSame sp7 σ b ∧ CS b T (2, p) := by
  constructor
  · intro hw
    obtain ⟨a, e, f, g⟩ := s_failB (G := G) (d := d + 9) q (x := 1) (c := 1) rfl (by decide)
    refine ⟨a, ?_, f.mono (by decide), g⟩
    rw [c_Rh_HouseReader_readHouse_6, if_neg (pGoL (c := 700) (n := 700) rfl hi (by decide)), if_pos (q.z.mpr rfl), if_neg (k_n0 q k0), s_kinds (d := d + 5) q, pCI, if_neg hw, e, pCV, pN_s]
  · intro k hk hw n e8 hn hm
    obtain ⟨a, e, f, g⟩ := s_failB (G := G) (d := d + 9) q (x := 2) (c := 2) rfl (by decide)
    refine ⟨a, ?_, f.mono (by decide), g⟩
    rw [c_Rh_HouseReader_readHouse_6, if_neg (pGoL (c := 700) (n := 700) rfl hi (by decide)), if_pos (q.z.mpr rfl), if_neg (k_n0 q k0), s_kinds (d := d + 5) q, pCI, hw, if_pos (pN_0 (by omega)), s_isFull (d := d + 8) (k := k) (n := n) rfl hk e8 (by omega), pCI, if_neg hm, if_neg (by decide), e, pCV, pN_s]
theorem r_semiBad {s : Nat × Nat} (q : RS σ T s) (hs : s.1 ≠ 0) : ∃ b, (aCI (Rn G (d + 7) 85 [.ref 33, .int 59] σ) fun v5 σ4 => aCV (Rn G (d + 7) 75 [.ref 33, .int v5] σ4) fun σ6 => (oV σ6 : Option (aRs × aH))) = oV b ∧ rHF σ b ∧ RS b T s := by
  obtain ⟨b, e, f, g⟩ := s_semiR (G := G) (d := d + 4) q
  rw [mNeed_c hs] at g
  exact ⟨b, e, f.hf, g⟩
end PMore
