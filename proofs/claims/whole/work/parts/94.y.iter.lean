/-! ===== a clause, on both sides (by wip/gen/emit_iter.py) ===== -/
def kdL : List Nat := [12, 19, 24, 31, 32]
def sp7 : List Nat := [1, 7, 8, 9, 10, 11, 12]
def rHF (σ σ' : aH) : Prop := pSame [33, 42, 43, 44, 45, 46, 47, 48, 49] σ σ' ∧ ∀ k, k < 16 ∨ k = 18 ∨ 33 < k → σ'.1 33 k = σ.1 33 k
theorem rHF.rfl' {σ : aH} : rHF σ σ := ⟨pSame.rfl', fun _ _ => rfl⟩
theorem rHF.trans {σ a b : aH} (f : rHF σ a) (g : rHF a b) : rHF σ b := ⟨f.1.trans g.1, fun k hk => (g.2 k hk).trans (f.2 k hk)⟩
theorem rFr.hf {σ a : aH} (f : rFr σ a) : rHF σ a := ⟨f.1.mono (by decide), fun k hk => f.2 k (by omega)⟩
section PIter
variable {G : Nat × (Nat → Int32)} {d : Nat} {σ : aH} {T : Tx} {p : Nat} {h : Ho}
theorem s_kinds (q : CS σ T (0, p)) : Rn G (d + 5) 25 [.ref 1, .ref 70] σ = oI (mWh T (0, p) kdL) σ := s_among (G := G) (d := d) (r := 70) (ws := kdL.map KW) so_70 (by decide) (KW_32' (by decide)) q
theorem k_n0 (q : CS σ T (0, p)) (k0 : tK T p ≠ 0) : ¬ σ.1 1 4 = 0 := by
  have k5 : tK T p < 5 := tKq_lt T (tQ T p)
  have e4 : σ.1 1 4 = Int32.ofNat (tK T p) := q.2.2.2.2.2.1
  rw [e4]
  exact fun e => k0 ((pEqL (c := 0) (n := 0) rfl (by decide) (by omega)).mp e)
theorem ci_P {i : Nat} (q : CS σ T (0, p)) (qh : cHb σ h) (hk : Hok h) (hw : mWh T (0, p) kdL = Int32.ofNat 0) (hm : hn h 0 < 20) (hi : i < 700) (k0 : tK T p ≠ 0) : ∃ b, Lq G (d + 10) M_22 (6, [some (.ref 1), some (.ref 7), some (.ref 11), some (.int (Int32.ofNat i)), none], [], σ) = Lq G (d + 10) M_22 (6, [some (.ref 1), some (.ref 7), some (.ref 11), some (.int (Int32.ofNat (i + 1))), none], [], b) ∧ pSame sp7 σ b ∧ CS b T (mNeed T (tS T (zP6 T (0, tE T p)) 59) (zP6 T (0, tE T p))) ∧ ((mNeed T (tS T (zP6 T (0, tE T p)) 59) (zP6 T (0, tE T p))).1 = 0 → cHb b (puP h (vPs T (0, tE T p)))) := by
  have e8 : σ.1 8 0 = Int32.ofNat (hn h 0) := qh.1 0 (by decide)
  obtain ⟨a1, e1, f1, g1⟩ := s_adv (G := G) (d := d + 3) q
  have g1 : CS a1 T (0, tE T p) := g1
  obtain ⟨a2, L, e2, len, row, g2, hv⟩ := c_clP (G := G) (d := d) g1 hm ((congrFun (f1.at (by decide)) 0).trans e8)
  obtain ⟨a3, e3, f3, g3⟩ := s_takeSemi (G := G) (d := d + 2) g2
  have a8 : ∀ k, a3.1 8 k = σ.1 8 k := fun k => by rw [f3.at (by decide), row.1.at (by decide), f1.at (by decide)]
  have e4 := s_close (G := G) (d := d + 8) (σ := a3) (k := 0) (n := hn h 0) (x1 := Int32.ofNat 0) rfl (by decide) ((a8 0).trans e8)
  refine ⟨aSI a3 8 0 (Int32.ofNat (hn h 0 + 1)), ?_, (((f1.mono (by decide)).trans (row.1.mono (by decide))).trans (f3.mono (by decide))).si (by decide), CS.ps (os := [8]) g3 (pSame.rfl'.si (by decide)) (by decide) (by decide), fun hz => ?_⟩
  · rw [c_Rh_HouseReader_readHouse_6, if_neg (pGoL (c := 700) (n := 700) rfl hi (by decide)), if_pos (q.z.mpr rfl), if_neg (k_n0 q k0), s_kinds (d := d + 5) q, pCI, hw, if_pos (show (0 : Int32) ≤ Int32.ofNat 0 by decide), s_isFull (d := d + 8) (k := 0) (n := hn h 0) rfl (by decide) e8 (by omega), pCI, if_pos (show hn h 0 < pMost 0 from hm), if_pos rfl, e1, pCV, if_pos (show Int32.ofNat 0 = 0 from rfl), e2, pCV, e3, pCV, e4, pCV, pN_s]
  · have hL : L = vPs T (0, tE T p) := hv (mNeed_0 hz).1
    subst hL
    refine cHb_puP _ qh hk.1 hm (fun k hk5 => ?_) (fun t ht => ?_) (fun t ht => ?_) ?_ ?_
    · by_cases e : k = 0
      · rw [if_pos e, e, pSI_at]
      · rw [if_neg e, pSI_of e, a8]
    · rw [pSI_ne (by decide), f3.at (by decide), row.2.2 t (by rw [len]; omega), f1.at (by decide)]
    · rw [pSI_ne (by decide), f3.at (by decide), row.2.1 t (by rw [len]; exact ht)]
    · rw [pSI_ne (by decide), f3.at (by decide), row.1.at (by decide), f1.at (by decide)]
    · rw [pSI_ne (by decide), f3.at (by decide), row.1.at (by decide), f1.at (by decide)]
theorem rc_P (q : RS σ T (0, p)) (qh : rHb σ h) (hw : kn T (tQ T p) = 12) (hm : hn h 0 < 20) : ∃ b, Rn G (d + 8) 68 [.ref 33] σ = oV b ∧ rHF σ b ∧ RS b T (mNeed T (tS T (zP6 T (0, tE T p)) 59) (zP6 T (0, tE T p))) ∧ ((mNeed T (tS T (zP6 T (0, tE T p)) 59) (zP6 T (0, tE T p))).1 = 0 → rHb b (puP h (vPs T (0, tE T p)))) := by
  have ec : σ.1 33 26 = Int32.ofNat (hn h 0) := qh.1 0 (by decide)
  obtain ⟨a, L, e, len, row, g, fr, hv⟩ := r_clP (G := G) (d := d + 1) q rfl hm ec
  obtain ⟨b, e2, f2, g2⟩ := s_semiR (G := G) (d := d + 4) g
  refine ⟨b, ?_, ⟨(row.1.mono (by decide)).trans (f2.1.mono (by decide)), fun k hk => (f2.2 k (by omega)).trans (fr k (by omega))⟩, g2, fun hz => ?_⟩
  · rw [e_Md_clause, s_known (d := d + 4) q, pCI, show kn T (tQ T (0, p).2) = 12 from hw, if_pos rfl, e, pCV]
    exact e2
  · obtain ⟨hL, h26⟩ := hv (mNeed_0 hz).1
    subst hL
    refine rHb_puP _ qh (fun k hk5 => ?_) (fun t ht => ?_) (fun t ht => ?_) ?_ ?_ ?_ ?_ ?_ ?_
    · rw [f2.2 (26 + k) (by omega)]
      by_cases e : k = 0
      · rw [if_pos e, e]
        exact h26
      · rw [if_neg e, fr (26 + k) (by omega)]
    · rw [f2.1.at (by decide), row.2.2 t (Or.inl (by omega))]
    · rw [f2.1.at (by decide), row.2.1 t (by rw [len]; exact ht)]
    · rw [f2.1.at (by decide), row.1.at (by decide)]
    · rw [f2.1.at (by decide), row.1.at (by decide)]
    · rw [f2.1.at (by decide), row.1.at (by decide)]
    · rw [f2.2 31 (by omega), fr 31 (by omega)]
    · rw [f2.1.at (by decide), row.1.at (by decide)]
    · rw [f2.1.at (by decide), row.1.at (by decide)]
theorem ci_S {i : Nat} (q : CS σ T (0, p)) (qh : cHb σ h) (hk : Hok h) (hw : mWh T (0, p) kdL = Int32.ofNat 1) (hm : hn h 1 < 20) (hi : i < 700) (k0 : tK T p ≠ 0) : ∃ b, Lq G (d + 10) M_22 (6, [some (.ref 1), some (.ref 7), some (.ref 11), some (.int (Int32.ofNat i)), none], [], σ) = Lq G (d + 10) M_22 (6, [some (.ref 1), some (.ref 7), some (.ref 11), some (.int (Int32.ofNat (i + 1))), none], [], b) ∧ pSame sp7 σ b ∧ CS b T (mNeed T (tS T (zS6 T (0, tE T p)) 59) (zS6 T (0, tE T p))) ∧ ((mNeed T (tS T (zS6 T (0, tE T p)) 59) (zS6 T (0, tE T p))).1 = 0 → cHb b (puS h (vSs T (0, tE T p)))) := by
  have e8 : σ.1 8 1 = Int32.ofNat (hn h 1) := qh.1 1 (by decide)
  obtain ⟨a1, e1, f1, g1⟩ := s_adv (G := G) (d := d + 3) q
  have g1 : CS a1 T (0, tE T p) := g1
  obtain ⟨a2, L, e2, len, row, g2, hv⟩ := c_clS (G := G) (d := d) g1 hm ((congrFun (f1.at (by decide)) 1).trans e8)
  obtain ⟨a3, e3, f3, g3⟩ := s_takeSemi (G := G) (d := d + 2) g2
  have a8 : ∀ k, a3.1 8 k = σ.1 8 k := fun k => by rw [f3.at (by decide), row.1.at (by decide), f1.at (by decide)]
  have e4 := s_close (G := G) (d := d + 8) (σ := a3) (k := 1) (n := hn h 1) (x1 := Int32.ofNat 1) rfl (by decide) ((a8 1).trans e8)
  refine ⟨aSI a3 8 1 (Int32.ofNat (hn h 1 + 1)), ?_, (((f1.mono (by decide)).trans (row.1.mono (by decide))).trans (f3.mono (by decide))).si (by decide), CS.ps (os := [8]) g3 (pSame.rfl'.si (by decide)) (by decide) (by decide), fun hz => ?_⟩
  · rw [c_Rh_HouseReader_readHouse_6, if_neg (pGoL (c := 700) (n := 700) rfl hi (by decide)), if_pos (q.z.mpr rfl), if_neg (k_n0 q k0), s_kinds (d := d + 5) q, pCI, hw, if_pos (show (0 : Int32) ≤ Int32.ofNat 1 by decide), s_isFull (d := d + 8) (k := 1) (n := hn h 1) rfl (by decide) e8 (by omega), pCI, if_pos (show hn h 1 < pMost 1 from hm), if_pos rfl, e1, pCV, if_neg (by decide), if_pos (show Int32.ofNat 1 = 1 from rfl), e2, pCV, e3, pCV, e4, pCV, pN_s]
  · have hL : L = vSs T (0, tE T p) := hv (mNeed_0 hz).1
    subst hL
    refine cHb_puS _ qh hk.1 hm (fun k hk5 => ?_) (fun t ht => ?_) (fun t ht => ?_) ?_ ?_
    · by_cases e : k = 1
      · rw [if_pos e, e, pSI_at]
      · rw [if_neg e, pSI_of e, a8]
    · rw [pSI_ne (by decide), f3.at (by decide), row.2.2 t (by rw [len]; omega), f1.at (by decide)]
    · rw [pSI_ne (by decide), f3.at (by decide), ← Nat.add_assoc, row.2.1 t (by rw [len]; exact ht)]
    · rw [pSI_ne (by decide), f3.at (by decide), row.1.at (by decide), f1.at (by decide)]
    · rw [pSI_ne (by decide), f3.at (by decide), row.1.at (by decide), f1.at (by decide)]
theorem rc_S (q : RS σ T (0, p)) (qh : rHb σ h) (hw : kn T (tQ T p) = 19) (hm : hn h 1 < 20) : ∃ b, Rn G (d + 8) 68 [.ref 33] σ = oV b ∧ rHF σ b ∧ RS b T (mNeed T (tS T (zS6 T (0, tE T p)) 59) (zS6 T (0, tE T p))) ∧ ((mNeed T (tS T (zS6 T (0, tE T p)) 59) (zS6 T (0, tE T p))).1 = 0 → rHb b (puS h (vSs T (0, tE T p)))) := by
  have ec : σ.1 33 27 = Int32.ofNat (hn h 1) := qh.1 1 (by decide)
  obtain ⟨a, L, e, len, row, g, fr, hv⟩ := r_clS (G := G) (d := d + 1) q rfl hm ec
  obtain ⟨b, e2, f2, g2⟩ := s_semiR (G := G) (d := d + 4) g
  refine ⟨b, ?_, ⟨(row.1.mono (by decide)).trans (f2.1.mono (by decide)), fun k hk => (f2.2 k (by omega)).trans (fr k (by omega))⟩, g2, fun hz => ?_⟩
  · rw [e_Md_clause, s_known (d := d + 4) q, pCI, show kn T (tQ T (0, p).2) = 19 from hw, if_neg (by decide), if_pos rfl, e, pCV]
    exact e2
  · obtain ⟨hL, h26⟩ := hv (mNeed_0 hz).1
    subst hL
    refine rHb_puS _ qh (fun k hk5 => ?_) (fun t ht => ?_) (fun t ht => ?_) ?_ ?_ ?_ ?_ ?_ ?_
    · rw [f2.2 (26 + k) (by omega)]
      by_cases e : k = 1
      · rw [if_pos e, e]
        exact h26
      · rw [if_neg e, fr (26 + k) (by omega)]
    · rw [f2.1.at (by decide), row.2.2 t (Or.inl (by omega))]
    · rw [f2.1.at (by decide), row.2.1 t (by rw [len]; exact ht)]
    · rw [f2.1.at (by decide), row.1.at (by decide)]
    · rw [f2.1.at (by decide), row.1.at (by decide)]
    · rw [f2.1.at (by decide), row.1.at (by decide)]
    · rw [f2.2 31 (by omega), fr 31 (by omega)]
    · rw [f2.1.at (by decide), row.1.at (by decide)]
    · rw [f2.1.at (by decide), row.1.at (by decide)]
theorem ci_L {i : Nat} (q : CS σ T (0, p)) (qh : cHb σ h) (hk : Hok h) (hw : mWh T (0, p) kdL = Int32.ofNat 2) (hm : hn h 2 < 6) (hi : i < 700) (k0 : tK T p ≠ 0) : ∃ b, Lq G (d + 10) M_22 (6, [some (.ref 1), some (.ref 7), some (.ref 11), some (.int (Int32.ofNat i)), none], [], σ) = Lq G (d + 10) M_22 (6, [some (.ref 1), some (.ref 7), some (.ref 11), some (.int (Int32.ofNat (i + 1))), none], [], b) ∧ pSame sp7 σ b ∧ CS b T (mNeed T (tS T (zL5 T (0, tE T p)) 59) (zL5 T (0, tE T p))) ∧ ((mNeed T (tS T (zL5 T (0, tE T p)) 59) (zL5 T (0, tE T p))).1 = 0 → cHb b (puL h (vLs T (0, tE T p)))) := by
  have e8 : σ.1 8 2 = Int32.ofNat (hn h 2) := qh.1 2 (by decide)
  obtain ⟨a1, e1, f1, g1⟩ := s_adv (G := G) (d := d + 3) q
  have g1 : CS a1 T (0, tE T p) := g1
  obtain ⟨a2, L, e2, len, row, g2, hv⟩ := c_clL (G := G) (d := d) g1 hm ((congrFun (f1.at (by decide)) 2).trans e8)
  obtain ⟨a3, e3, f3, g3⟩ := s_takeSemi (G := G) (d := d + 2) g2
  have a8 : ∀ k, a3.1 8 k = σ.1 8 k := fun k => by rw [f3.at (by decide), row.1.at (by decide), f1.at (by decide)]
  have e4 := s_close (G := G) (d := d + 8) (σ := a3) (k := 2) (n := hn h 2) (x1 := Int32.ofNat 2) rfl (by decide) ((a8 2).trans e8)
  refine ⟨aSI a3 8 2 (Int32.ofNat (hn h 2 + 1)), ?_, (((f1.mono (by decide)).trans (row.1.mono (by decide))).trans (f3.mono (by decide))).si (by decide), CS.ps (os := [8]) g3 (pSame.rfl'.si (by decide)) (by decide) (by decide), fun hz => ?_⟩
  · rw [c_Rh_HouseReader_readHouse_6, if_neg (pGoL (c := 700) (n := 700) rfl hi (by decide)), if_pos (q.z.mpr rfl), if_neg (k_n0 q k0), s_kinds (d := d + 5) q, pCI, hw, if_pos (show (0 : Int32) ≤ Int32.ofNat 2 by decide), s_isFull (d := d + 8) (k := 2) (n := hn h 2) rfl (by decide) e8 (by omega), pCI, if_pos (show hn h 2 < pMost 2 from hm), if_pos rfl, e1, pCV, if_neg (by decide), if_neg (by decide), if_pos (show Int32.ofNat 2 = 2 from rfl), e2, pCV, e3, pCV, e4, pCV, pN_s]
  · have hL : L = vLs T (0, tE T p) := hv (mNeed_0 hz).1
    subst hL
    refine cHb_puL _ qh hk.1 hm (fun k hk5 => ?_) (fun t ht => ?_) (fun t ht => ?_) ?_ ?_
    · by_cases e : k = 2
      · rw [if_pos e, e, pSI_at]
      · rw [if_neg e, pSI_of e, a8]
    · rw [pSI_ne (by decide), f3.at (by decide), row.2.2 t (by rw [len]; omega), f1.at (by decide)]
    · rw [pSI_ne (by decide), f3.at (by decide), ← Nat.add_assoc, row.2.1 t (by rw [len]; exact ht)]
    · rw [pSI_ne (by decide), f3.at (by decide), row.1.at (by decide), f1.at (by decide)]
    · rw [pSI_ne (by decide), f3.at (by decide), row.1.at (by decide), f1.at (by decide)]
theorem rc_L (q : RS σ T (0, p)) (qh : rHb σ h) (hw : kn T (tQ T p) = 24) (hm : hn h 2 < 6) : ∃ b, Rn G (d + 8) 68 [.ref 33] σ = oV b ∧ rHF σ b ∧ RS b T (mNeed T (tS T (zL5 T (0, tE T p)) 59) (zL5 T (0, tE T p))) ∧ ((mNeed T (tS T (zL5 T (0, tE T p)) 59) (zL5 T (0, tE T p))).1 = 0 → rHb b (puL h (vLs T (0, tE T p)))) := by
  have ec : σ.1 33 28 = Int32.ofNat (hn h 2) := qh.1 2 (by decide)
  obtain ⟨a, L, e, len, row, g, fr, hv⟩ := r_clL (G := G) (d := d + 1) q rfl hm ec
  obtain ⟨b, e2, f2, g2⟩ := s_semiR (G := G) (d := d + 4) g
  refine ⟨b, ?_, ⟨(row.1.mono (by decide)).trans (f2.1.mono (by decide)), fun k hk => (f2.2 k (by omega)).trans (fr k (by omega))⟩, g2, fun hz => ?_⟩
  · rw [e_Md_clause, s_known (d := d + 4) q, pCI, show kn T (tQ T (0, p).2) = 24 from hw, if_neg (by decide), if_neg (by decide), if_pos rfl, e, pCV]
    exact e2
  · obtain ⟨hL, h26⟩ := hv (mNeed_0 hz).1
    subst hL
    refine rHb_puL _ qh (fun k hk5 => ?_) (fun t ht => ?_) (fun t ht => ?_) ?_ ?_ ?_ ?_ ?_ ?_
    · rw [f2.2 (26 + k) (by omega)]
      by_cases e : k = 2
      · rw [if_pos e, e]
        exact h26
      · rw [if_neg e, fr (26 + k) (by omega)]
    · rw [f2.1.at (by decide), row.2.2 t (Or.inl (by omega))]
    · rw [f2.1.at (by decide), row.2.1 t (by rw [len]; exact ht)]
    · rw [f2.1.at (by decide), row.1.at (by decide)]
    · rw [f2.1.at (by decide), row.1.at (by decide)]
    · rw [f2.1.at (by decide), row.1.at (by decide)]
    · rw [f2.2 31 (by omega), fr 31 (by omega)]
    · rw [f2.1.at (by decide), row.1.at (by decide)]
    · rw [f2.1.at (by decide), row.1.at (by decide)]
end PIter
