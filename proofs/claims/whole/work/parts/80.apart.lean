/-! ===== apart ===== -/
section PApart
variable {G : Nat × (Nat → Int32)} {d : Nat} {σ : aH} {m : St}
def pWay (a b : Int32) : Int32 := if a = b then 0 else if b ≤ a then 1 else -1
theorem pWay_tri (a b : Int32) : (pWay a b = 0 ∧ pWay b a = 0) ∨ (pWay a b = 1 ∧ pWay b a = -1) ∨ (pWay a b = -1 ∧ pWay b a = 1) := by
  unfold pWay
  by_cases h : a = b
  · exact Or.inl ⟨if_pos h, if_pos h.symm⟩
  · by_cases h2 : b ≤ a
    · refine Or.inr (Or.inl ⟨by rw [if_neg h, if_pos h2], ?_⟩)
      rw [if_neg (fun e => h e.symm), if_neg]
      intro h3
      exact h (Int32.le_antisymm h3 h2)
    · refine Or.inr (Or.inr ⟨by rw [if_neg h, if_neg h2], ?_⟩)
      rw [if_neg (fun e => h e.symm), if_pos]
      have := pNotLe.mp h2
      rw [pLt] at this
      rw [pLe]
      omega
theorem s_wayC {a b : Int32} : Rn G (d + 1) 237 [.int a, .int b] σ = oI (pWay a b) σ := by
  rw [e_Rh_wayOf]
  unfold pWay
  by_cases h : a = b
  · rw [if_pos h, if_pos h]
  · rw [if_neg h, if_neg h, pOI]
theorem s_wayM {a b : Int32} : Rn G (d + 1) 242 [.int a, .int b] σ = oI (pWay a b) σ := by
  rw [e_Md_way]
  unfold pWay
  by_cases h2 : b ≤ a
  · rw [if_pos h2]
    by_cases h3 : a ≤ b
    · rw [if_pos h3, if_pos (Int32.le_antisymm h3 h2)]
    · rw [if_neg h3, if_neg (fun e => h3 (by rw [e]; exact Int32.le_refl _)), if_pos h2]
  · rw [if_neg h2, if_neg (fun e => h2 (by rw [e]; exact Int32.le_refl _)), if_neg h2]
/-- how two ways go together: 2 where one of them is none, 0 alike, 1 not -/
def pTwo (a b : Int32) : Int32 := if a = 0 then 2 else if b = 0 then 2 else if a = b then 0 else 1
def pApt (h : Ho) (s : Sh) (i j : Nat) : Int32 := pTwo (pWay (mSum h s i false) (mSum h s j false)) (pWay (s.2 i 12) (s.2 j 12))
theorem pApt_swap (h : Ho) (s : Sh) (i j : Nat) : pApt h s i j = pApt h s j i := by
  unfold pApt
  rcases pWay_tri (mSum h s i false) (mSum h s j false) with ⟨a, b⟩ | ⟨a, b⟩ | ⟨a, b⟩ <;> rcases pWay_tri (s.2 i 12) (s.2 j 12) with ⟨c, e⟩ | ⟨c, e⟩ | ⟨c, e⟩ <;> rw [a, b, c, e] <;> decide
def mAptG (h : Ho) (s : Sh) (x : Int32) (i j : Nat) : Int32 := if mOff h s i = -1 ∧ mOff h s j = -1 then (if pApt h s i j = x then 1 else 0) else 0
def mAptF (h : Ho) (s : Sh) (x : Int32) (i j : Nat) : Int32 := if pApt h s i j = x then 1 else 0
theorem s_apartOf {s : Sh} (v : cSv σ m.1 s) (qs : cSh σ 13 s) (h60 : s.1 ≤ 60) {i j : Nat} (hi : i < s.1) (hj : j < s.1) : Rn G (d + 3) 245 [.ref 0, .int (Int32.ofNat i), .int (Int32.ofNat j)] σ = oI (pApt m.1 s i j) σ := by
  rw [e_Rh_apartOf, s_feltOf v h60 hi, pCI, s_feltOf v h60 hj, pCI, s_wayC, pCI, s_getN (x := 12) (c := 12) qs h60 hi (by decide) rfl, pCI, s_getN (x := 12) (c := 12) qs h60 hj (by decide) rfl, pCI, s_wayC, pCI]
  unfold pApt pTwo
  by_cases h1 : pWay (mSum m.1 s i false) (mSum m.1 s j false) = 0
  · rw [if_pos h1, if_pos h1]
  · rw [if_neg h1, if_neg h1]
    by_cases h2 : pWay (s.2 i 12) (s.2 j 12) = 0
    · rw [if_pos h2, if_pos h2]
    · rw [if_neg h2, if_neg h2, pOI]
theorem s_apartC (ho : okAll m) (qs : cSh σ 13 m.2.1) (v : cSv σ m.1 m.2.1) {x : Int32} : Lq G (d + 4) M_244 (36, [some (.ref 0), some (.int x), some (.int 0), some (.int 0), none], [], σ) = oI (pCc (mAptG m.1 m.2.1 x) m.2.1.1) σ := by
  have h60 := ho.2.1.1
  have inner : ∀ (i : Nat) (a : Int32), i < m.2.1.1 → Lq G (d + 4) M_244 (52, [some (.ref 0), some (.int x), some (.int a), some (.int (Int32.ofNat i)), some (.int (Int32.ofNat (i + 1)))], [], σ) = Lq G (d + 4) M_244 (36, [some (.ref 0), some (.int x), some (.int (a + pS (fun t => mAptG m.1 m.2.1 x i (i + 1 + t)) (m.2.1.1 - (i + 1)))), some (.int (Int32.ofNat (i + 1))), none], [], σ) := by
    intro i a hi
    have e := pLoop (G := G) (d := d + 4) (M := M_244) (fun j (a : Int32) => (52, [some (.ref 0), some (.int x), some (.int a), some (.int (Int32.ofNat i)), some (.int (Int32.ofNat j))], [], σ)) (fun j a => a + mAptG m.1 m.2.1 x i j) m.2.1.1 (by
      intro j a hj
      show Lq G (d + 4) M_244 (52, [some (.ref 0), some (.int x), some (.int a), some (.int (Int32.ofNat i)), some (.int (Int32.ofNat j))], [], σ) = Lq G (d + 4) M_244 (52, [some (.ref 0), some (.int x), some (.int (a + mAptG m.1 m.2.1 x i j)), some (.int (Int32.ofNat i)), some (.int (Int32.ofNat (j + 1)))], [], σ)
      unfold mAptG
      rw [c_Rh_apart_52, qs.1, if_neg (pGo hj (by omega)), s_counts v h60 hi, pCI, pB0]
      by_cases h1 : mOff m.1 m.2.1 i = -1
      · rw [if_pos h1, s_counts v h60 hj, pCI, pB0]
        by_cases h2 : mOff m.1 m.2.1 j = -1
        · rw [if_pos h2, s_apartOf v qs h60 hi hj, pCI, if_pos (show mOff m.1 m.2.1 i = -1 ∧ mOff m.1 m.2.1 j = -1 from ⟨h1, h2⟩), pN_s]
          by_cases h3 : pApt m.1 m.2.1 i j = x
          · rw [if_pos h3, if_pos h3]
          · rw [if_neg h3, if_neg h3, Int32.add_zero]
        · rw [if_neg h2, if_neg (fun h => h2 h.2), Int32.add_zero, pN_s]
      · rw [if_neg h1, if_neg (fun h => h1 h.1), Int32.add_zero, pN_s]) (m.2.1.1 - (i + 1)) (i + 1) a (by omega)
    rw [pFo_sum] at e
    refine Eq.trans e ?_
    show Lq G (d + 4) M_244 (52, [some (.ref 0), some (.int x), some (.int (a + pS (fun t => mAptG m.1 m.2.1 x i (i + 1 + t)) (m.2.1.1 - (i + 1)))), some (.int (Int32.ofNat i)), some (.int (Int32.ofNat m.2.1.1))], [], σ) = _
    rw [c_Rh_apart_52, qs.1, if_pos pEnd, pN_s]
  have e := pLoop0 (G := G) (d := d + 4) (M := M_244) (fun i (a : Int32) => (36, [some (.ref 0), some (.int x), some (.int a), some (.int (Int32.ofNat i)), none], [], σ)) (fun i a => a + pS (fun t => mAptG m.1 m.2.1 x i (i + 1 + t)) (m.2.1.1 - (i + 1))) m.2.1.1 0 (by
    intro i a hi
    show Lq G (d + 4) M_244 (36, [some (.ref 0), some (.int x), some (.int a), some (.int (Int32.ofNat i)), none], [], σ) = _
    rw [c_Rh_apart_36, qs.1, if_neg (pGo hi (by omega)), pN_s, inner i a hi])
  rw [pFo_sum0, Int32.zero_add] at e
  refine Eq.trans e ?_
  show Lq G (d + 4) M_244 (36, [some (.ref 0), some (.int x), some (.int (pCc (mAptG m.1 m.2.1 x) m.2.1.1)), some (.int (Int32.ofNat m.2.1.1)), none], [], σ) = _
  rw [c_Rh_apart_36, qs.1, if_pos pEnd]
theorem s_apartM (q : rHo σ m.1) (ho : okAll m) (qs : rSh σ 40 53 54 m.2.1) (g : rG σ (mCl m.1 m.2.1)) {x : Int32} : Lq G (d + 1) M_246 (29, [some (.ref 33), some (.int x), some (.int 0), some (.int 0), none, none, none], [], σ) = oI (pCl (mAptF m.1 m.2.1 x) (mCl m.1 m.2.1)) σ := by
  have h60 := ho.2.1.1
  have hk := ho.1
  have hl := mCl_len (h := m.1) (s := m.2.1)
  have inner : ∀ (i : Nat) (a : Int32), i < (mCl m.1 m.2.1).length → Lq G (d + 1) M_246 (40, [some (.ref 33), some (.int x), some (.int a), some (.int (Int32.ofNat i)), some (.int 0), none, none], [], σ) = Lq G (d + 1) M_246 (29, [some (.ref 33), some (.int x), some (.int (a + pS (fun b => mAptF m.1 m.2.1 x ((mCl m.1 m.2.1).getD i 0) ((mCl m.1 m.2.1).getD b 0)) i)), some (.int (Int32.ofNat (i + 1))), none, none, none], [], σ) := by
    intro i a hi
    obtain ⟨i1, i2⟩ := g.elem hi
    have e := pLoop0 (G := G) (d := d + 1) (M := M_246) (fun j (a : Int32) => (40, [some (.ref 33), some (.int x), some (.int a), some (.int (Int32.ofNat i)), some (.int (Int32.ofNat j)), none, none], [], σ)) (fun j a => a + mAptF m.1 m.2.1 x ((mCl m.1 m.2.1).getD i 0) ((mCl m.1 m.2.1).getD j 0)) i a (by
      intro j a hj
      obtain ⟨j1, j2⟩ := g.elem (show j < (mCl m.1 m.2.1).length by omega)
      show Lq G (d + 1) M_246 (40, [some (.ref 33), some (.int x), some (.int a), some (.int (Int32.ofNat i)), some (.int (Int32.ofNat j)), none, none], [], σ) = Lq G (d + 1) M_246 (40, [some (.ref 33), some (.int x), some (.int (a + mAptF m.1 m.2.1 x ((mCl m.1 m.2.1).getD i 0) ((mCl m.1 m.2.1).getD j 0))), some (.int (Int32.ofNat i)), some (.int (Int32.ofNat (j + 1))), none, none], [], σ)
      rw [c_Md_apart_40, if_neg (pGo hj (by omega)), pIx (by omega) (by decide), i2, s_sum q hk qs i1 h60 (sd := false) (x := 0) rfl, pCI, pIx (by omega) (by decide), j2, s_sum q hk qs j1 h60 (sd := false) (x := 0) rfl, pCI, s_wayM, pCI, pIx (by omega) (by decide), i2, s_shownOf qs h60 i1, pCI, pIx (by omega) (by decide), j2, s_shownOf qs h60 j1, pCI, s_wayM, pCI, pN_s]
      unfold mAptF pApt pTwo
      by_cases h1 : pWay (mSum m.1 m.2.1 ((mCl m.1 m.2.1).getD i 0) false) (mSum m.1 m.2.1 ((mCl m.1 m.2.1).getD j 0) false) = 0
      · rw [if_pos h1, if_pos h1]
        by_cases h4 : (2 : Int32) = x
        · rw [if_pos h4, if_pos h4]
        · rw [if_neg h4, if_neg h4]
      · rw [if_neg h1, if_neg h1]
        by_cases h2 : pWay (m.2.1.2 ((mCl m.1 m.2.1).getD i 0) 12) (m.2.1.2 ((mCl m.1 m.2.1).getD j 0) 12) = 0
        · rw [if_pos h2, if_pos h2]
          by_cases h4 : (2 : Int32) = x
          · rw [if_pos h4, if_pos h4]
          · rw [if_neg h4, if_neg h4]
        · rw [if_neg h2, if_neg h2]
          by_cases h3 : pWay (mSum m.1 m.2.1 ((mCl m.1 m.2.1).getD i 0) false) (mSum m.1 m.2.1 ((mCl m.1 m.2.1).getD j 0) false) = pWay (m.2.1.2 ((mCl m.1 m.2.1).getD i 0) 12) (m.2.1.2 ((mCl m.1 m.2.1).getD j 0) 12)
          · rw [if_pos h3, if_pos h3]
            by_cases h4 : (0 : Int32) = x
            · rw [if_pos h4, if_pos h4]
            · rw [if_neg h4, if_neg h4]
          · rw [if_neg h3, if_neg h3]
            by_cases h4 : (1 : Int32) = x
            · rw [if_pos h4, if_pos h4]
            · rw [if_neg h4, if_neg h4])
    rw [pFo_sum0] at e
    refine Eq.trans e ?_
    show Lq G (d + 1) M_246 (40, [some (.ref 33), some (.int x), some (.int (a + pS (fun b => mAptF m.1 m.2.1 x ((mCl m.1 m.2.1).getD i 0) ((mCl m.1 m.2.1).getD b 0)) i)), some (.int (Int32.ofNat i)), some (.int (Int32.ofNat i)), none, none], [], σ) = _
    rw [c_Md_apart_40, if_pos pEnd, pN_s]
  have e := pLoop0 (G := G) (d := d + 1) (M := M_246) (fun i (a : Int32) => (29, [some (.ref 33), some (.int x), some (.int a), some (.int (Int32.ofNat i)), none, none, none], [], σ)) (fun i a => a + pS (fun b => mAptF m.1 m.2.1 x ((mCl m.1 m.2.1).getD i 0) ((mCl m.1 m.2.1).getD b 0)) i) (mCl m.1 m.2.1).length 0 (by
    intro i a hi
    show Lq G (d + 1) M_246 (29, [some (.ref 33), some (.int x), some (.int a), some (.int (Int32.ofNat i)), none, none, none], [], σ) = _
    rw [c_Md_apart_29, g.1, if_neg (pGo hi (by omega)), inner i a hi])
  rw [pFo_sum0, Int32.zero_add] at e
  refine Eq.trans e ?_
  show Lq G (d + 1) M_246 (29, [some (.ref 33), some (.int x), some (.int (pCl (mAptF m.1 m.2.1 x) (mCl m.1 m.2.1))), some (.int (Int32.ofNat (mCl m.1 m.2.1).length)), none, none, none], [], σ) = _
  rw [c_Md_apart_29, g.1, if_pos pEnd]
theorem a_apart (ho : okAll m) (x : Int32) : Ask G 244 246 [.int x] [(0, 1)] m := by
  have eq : pCc (mAptG m.1 m.2.1 x) m.2.1.1 = pCl (mAptF m.1 m.2.1 x) (mCl m.1 m.2.1) := pCouples (fun k => mOff m.1 m.2.1 k = -1) (f := mAptF m.1 m.2.1 x) (g := mAptG m.1 m.2.1 x) (fun i j => by
    unfold mAptG mAptF
    rw [pApt_swap m.1 m.2.1 j i]) m.2.1.1
  rcases rngI (x := x) (n := 3) (by decide) with ⟨w, hw, ex⟩ | hx
  · refine Or.inl ⟨pCl (mAptF m.1 m.2.1 x) (mCl m.1 m.2.1), fun σ I => ?_, fun σ I => ?_⟩
    · obtain ⟨σ1, r1, f1, v1⟩ := s_siftI (G := G) (d := 52) I
      have e := s_apartC (G := G) (d := 55) ho (I.2.1.2.1.ps f1 (by decide) (by decide)) v1 (x := x)
      refine cOkS (σ' := σ1) ?_ f1 (by decide)
      rw [e_Rh_apart, if_neg (show ¬ x < 0 by rw [ex]; exact pN_n0 (by omega)), if_neg (show ¬ 2 < x by rw [ex]; exact pLB (c := 2) (b := 2) rfl (by omega) (by decide)), s_demand1, pXV, r1, pCV, e, eq]
    · obtain ⟨σ1, r1, f1, g1, v1⟩ := s_gatherI (G := G) (d := 54) I
      refine rOkS (σ' := σ1) ?_ f1 g1
      rw [e_Md_apart, s_within, pCI, if_pos (show 0 ≤ x ∧ x ≤ 2 by rw [ex]; exact ⟨pN_0 (by omega), pLe' (c := 2) (b := 2) rfl (by omega) (by decide)⟩), s_r1, pCI, if_neg (by decide), r1, pCV]
      exact s_apartM (d := 58) (I.2.2.1.rs f1) ho (I.2.2.2.1.1.rs f1) v1
  · refine Or.inr ⟨(0, 1), by decide, fun σ I => cExI ?_, fun σ I => rExI (v := 0) ?_⟩
    · rw [e_Rh_apart, s_demand0, pXVt]
      by_cases h0 : x < 0
      · rw [if_pos h0]
      · rw [if_neg h0, if_pos (pBad (c := 2) (b := 2) rfl (by decide) (hx.resolve_left h0))]
    · rw [e_Md_apart, s_within, pCI, if_neg (pOut (c := 2) (b := 2) rfl (by decide) hx), s_r0 (by decide), pCI, if_pos rfl]
end PApart
