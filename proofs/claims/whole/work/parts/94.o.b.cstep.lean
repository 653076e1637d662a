/-! ===== the class's steps through a rule ===== -/
def nmL : List Nat := [0, 1, 2, 3, 4, 5, 6, 7, 8, 9, 10, 11]
def tOp (T : Tx) (s : Nat × Nat) : Nat := if tS T s 60 = true then 4 else if tS T s 61 = true then 5 else if tS T s 43 = true then 6 else if tS T s 45 = true then 7 else if tS T s 42 = true then 8 else if tS T s 47 = true then 9 else if tW T s 34 = true then 1 else if tW T s 33 = true then 2 else 0
theorem bI_t {b : Bool} (h : b = true) : bI b = 1 := by rw [h]; rfl
theorem bI_f {b : Bool} (h : ¬ b = true) : bI b = 0 := bI0.mpr h
section PCStep
variable {G : Nat × (Nat → Int32)} {d : Nat} {σ : aH} {T : Tx} {base p : Nat} {pend : List Nat} {out : List Int32} {may : Bool}
theorem CE.opnlt (q : CE σ T base p pend out true may) (hk : okK pend) : σ.1 11 2 < 6 ↔ opn pend < 6 := by
  have := okK_opn hk
  rw [q.2.1.2.1]
  constructor
  · intro h
    by_cases h2 : opn pend < 6
    · exact h2
    · exact absurd h (pLB (c := 6) (b := 6) rfl (by omega) (by decide) |> fun _ => pNotLt.mpr ((pN_le (a := 6) (by decide) (by omega)).mpr (by omega)))
  · intro h
    exact pGoL' (c := 6) (n := 6) rfl h (by decide)
theorem s_failB {x : Int32} {c : Nat} (q : CS σ T (0, p)) (hx : x = Int32.ofNat c) (hc : c < 5) : ∃ a, Rn G (d + 1) 30 [.ref 1, .int x] σ = oV a ∧ pSame [1] σ a ∧ CS a T (c, p) := s_fail q hx hc
theorem c_deep (q : CE σ T base p pend out true may) (hk : okK pend) (h6 : ¬ opn pend < 6) : cBad G d 46 T (if tS T (0, p) 40 = true ∨ tK T p = 2 ∨ tK T p = 1 then 2 else 1, p) σ := by
  have q1 := q.1
  have k5 : tK T p < 5 := tKq_lt T (tQ T p)
  have e4 : σ.1 1 4 = Int32.ofNat (tK T p) := q1.2.2.2.2.2.1
  have hn := fun h => h6 ((q.opnlt hk).mp h)
  obtain ⟨a2, r2, f2, g2⟩ := s_failB (G := G) (d := d + 7) q1 (x := 2) (c := 2) rfl (by decide)
  obtain ⟨a1, r1, f1, g1⟩ := s_failB (G := G) (d := d + 7) q1 (x := 1) (c := 1) rfl (by decide)
  by_cases hp : tS T (0, p) 40 = true
  · rw [if_pos (Or.inl hp)]
    refine cBad_of (a := a2) ?_ (f2.mono (by decide)) g2 (by decide)
    rw [e_Rh_RuleReader_readOperand, s_isSignC (d := d + 6) q1, pCI, if_neg hn, bI_t hp, if_neg (by decide), r2, pCV]
  · by_cases h2 : tK T p = 2
    · rw [if_pos (Or.inr (Or.inl h2))]
      refine cBad_of (a := a2) ?_ (f2.mono (by decide)) g2 (by decide)
      rw [e_Rh_RuleReader_readOperand, s_isSignC (d := d + 6) q1, pCI, if_neg hn, bI_f hp, if_pos rfl, e4, if_pos (by rw [h2]; rfl), r2, pCV]
    · by_cases h1 : tK T p = 1
      · rw [if_pos (Or.inr (Or.inr h1))]
        refine cBad_of (a := a2) ?_ (f2.mono (by decide)) g2 (by decide)
        rw [e_Rh_RuleReader_readOperand, s_isSignC (d := d + 6) q1, pCI, if_neg hn, bI_f hp, if_pos rfl, e4, if_neg (fun h => h2 ((pEqL (c := 2) (n := 2) rfl (by decide) (by omega)).mp h)), if_pos (by rw [h1]; rfl), r2, pCV]
      · rw [if_neg (fun h => h.elim hp fun h => h.elim h2 h1)]
        refine cBad_of (a := a1) ?_ (f1.mono (by decide)) g1 (by decide)
        rw [e_Rh_RuleReader_readOperand, s_isSignC (d := d + 6) q1, pCI, if_neg hn, bI_f hp, if_pos rfl, e4, if_neg (fun h => h2 ((pEqL (c := 2) (n := 2) rfl (by decide) (by omega)).mp h)), if_neg (fun h => h1 ((pEqL (c := 1) (n := 1) rfl (by decide) (by omega)).mp h)), r1, pCV]
theorem CR.push {n : Nat} {x : Nat} (q : CR σ base pend out) (hn : n = pend.length) : CR (aSI (aSI σ 12 n (Int32.ofNat x)) 11 1 (Int32.ofNat (n + 1))) base (x :: pend) out ↔ Int32.ofNat (opn pend) = Int32.ofNat (opn (x :: pend)) := by
  obtain ⟨q1, q2, q3, q4, q5⟩ := q
  subst hn
  constructor
  · intro h
    have h2 := h.2.1
    rw [pSI_of (by decide), pSI_ne (by decide), q2] at h2
    exact h2
  · intro h
    refine ⟨pSI_at, ?_, ⟨?_, ?_⟩, ?_, ?_⟩
    · rw [pSI_of (by decide), pSI_ne (by decide), q2, h]
    · rw [pSI_ne (by decide), pSI_at]
    · refine stk_congr _ (fun i hi => ?_) q3
      rw [pSI_ne (by decide), pSI_of (by omega)]
    · rw [pSI_ne (by decide), pSI_ne (by decide), q4]
    · rw [pSI_ne (by decide), pSI_ne (by decide)]
      exact q5
theorem c_open (q : CE σ T base p pend out true may) (hk : okK pend) (h6 : opn pend < 6) (hp : tS T (0, p) 40 = true) : cOkE G d 46 T base (tE T p) (0 :: pend) out true true σ := by
  obtain ⟨q1, q2, q3, q4⟩ := q
  have hn : σ.1 11 2 < 6 := (CE.opnlt ⟨q1, q2, q3, q4⟩ hk).mpr h6
  have l83 := (okK_84 hk).1
  obtain ⟨c1, c2, c3, c4, c5⟩ := q2
  have aw := s_await (G := G) (d := d + 6) (σ := σ) (x := 0) (x1 := 0) rfl c1 (by omega)
  have f : pSame [11, 12] σ (aSI (aSI σ 12 pend.length (Int32.ofNat 0)) 11 1 (Int32.ofNat (pend.length + 1))) := (pSame.rfl'.si (by decide)).si (by decide)
  refine cOk_of (a := aSI (aSI (aSI (aSI (aSI σ 12 pend.length (Int32.ofNat 0)) 11 1 (Int32.ofNat (pend.length + 1))) 11 2 (Int32.ofNat (opn pend + 1))) 11 3 0) 11 5 1) ?_ ((((f.mono (by decide)).si (by decide)).si (by decide)).si (by decide)) ⟨?_, ⟨?_, ?_, ⟨?_, ?_⟩, ?_, ?_⟩, ?_, ⟨fun _ => ⟨?_, ?_⟩, fun h => absurd h (by decide)⟩⟩ (fun i _ => ?_)
  · rw [e_Rh_RuleReader_readOperand, s_isSignC (d := d + 6) q1, pCI, if_pos hn, bI_t hp, if_neg (by decide), aw, pCV, pSI_of (by decide), pSI_ne (by decide), c2, pN_s]
  · exact q1.ps (os := [11, 12]) (((f.si (by decide)).si (by decide)).si (by decide)) (by decide) (by decide)
  · rw [pSI_of (by decide), pSI_of (by decide), pSI_of (by decide), pSI_at]
    rfl
  · rw [pSI_of (by decide), pSI_of (by decide), pSI_at]
    rfl
  · rw [pSI_ne (by decide), pSI_ne (by decide), pSI_ne (by decide), pSI_ne (by decide), pSI_at]
  · refine stk_congr _ (fun i hi => ?_) c3
    rw [pSI_ne (by decide), pSI_ne (by decide), pSI_ne (by decide), pSI_ne (by decide), pSI_of (by omega)]
  · rw [pSI_ne (by decide), pSI_ne (by decide), pSI_ne (by decide), pSI_ne (by decide), pSI_ne (by decide), c4]
  · rw [pSI_ne (by decide), pSI_ne (by decide), pSI_ne (by decide), pSI_ne (by decide), pSI_ne (by decide)]
    exact c5
  · rw [pSI_of (by decide), pSI_of (by decide), pSI_of (by decide), pSI_of (by decide), pSI_ne (by decide), q3]
  · rw [pSI_of (by decide), pSI_at]
    rfl
  · rw [pSI_at]
    rfl
  · rw [pSI_ne (by decide), pSI_ne (by decide), pSI_ne (by decide), pSI_ne (by decide), pSI_ne (by decide)]
theorem s_isNot (q1 : CS σ T (0, p)) : Rn G (d + 6) 48 [.ref 1, .ref 108] σ = oI (bI (tW T (0, p) 35)) σ := by
  have e := s_isW (G := G) (d := d) (r := 108) (x := 35) so_108 (by decide) q1
  rw [e_Rh_Tape_isWord, e, pCI]
  cases tW T (0, p) 35 <;> rfl
theorem c_notFull (q : CE σ T base p pend out true true) (hk : okK pend) (h6 : opn pend < 6) (hp : ¬ tS T (0, p) 40 = true) (hw : tW T (0, p) 35 = true) (hf : ¬ nts pend < 6) : cBad G d 46 T (2, p) σ := by
  obtain ⟨q1, q2, q3, q4⟩ := q
  have hn : σ.1 11 2 < 6 := (CE.opnlt ⟨q1, q2, q3, q4⟩ hk).mpr h6
  obtain ⟨t3, t5⟩ := q4.1 rfl
  have l83 := (okK_84 hk).1
  have nl : ∀ l : List Nat, nts l ≤ l.length := by
    intro l
    induction l with
    | nil => exact Nat.le_refl 0
    | cons x r ih =>
      show (if x = 3 then nts r + 1 else 0) ≤ r.length + 1
      split <;> omega
  have := nl pend
  obtain ⟨a, r1, f1, g1⟩ := s_failB (G := G) (d := d + 7) q1 (x := 2) (c := 2) rfl (by decide)
  obtain ⟨b, r2, f2⟩ := s_awaitA (G := G) (d := d + 6) (σ := a) (x := 3)
  refine cBad_of (a := aSI b 11 3 (b.1 11 3 + 1)) ?_ (((f1.mono (by decide)).trans (f2.mono (by decide))).si (by decide)) (CS.ps (os := [11, 12]) g1 (f2.si (by decide)) (by decide) (by decide)) (by decide)
  rw [e_Rh_RuleReader_readOperand, s_isSignC (d := d + 6) q1, pCI, if_pos hn, bI_f hp, if_pos rfl, t5, if_neg (by decide), s_isNot (d := d + 2) q1, pCI, bI_t hw, if_neg (by decide), t3, if_neg (show ¬ Int32.ofNat (nts pend) < 6 from pNotLt.mpr ((pN_le (a := 6) (by decide) (by omega)).mpr (by omega))), r1, pCV, r2, pCV]
theorem c_not (q : CE σ T base p pend out true true) (hk : okK pend) (h6 : opn pend < 6) (hp : ¬ tS T (0, p) 40 = true) (hw : tW T (0, p) 35 = true) (hf : nts pend < 6) : cOkE G d 46 T base (tE T p) (3 :: pend) out true true σ := by
  obtain ⟨q1, q2, q3, q4⟩ := q
  have hn : σ.1 11 2 < 6 := (CE.opnlt ⟨q1, q2, q3, q4⟩ hk).mpr h6
  obtain ⟨t3, t5⟩ := q4.1 rfl
  have l83 := (okK_84 hk).1
  have c1 := q2.1
  have aw := s_await (G := G) (d := d + 6) (σ := σ) (x := 3) (x1 := 3) rfl c1 (by omega)
  have f : pSame [11, 12] σ (aSI (aSI σ 12 pend.length (Int32.ofNat 3)) 11 1 (Int32.ofNat (pend.length + 1))) := (pSame.rfl'.si (by decide)).si (by decide)
  have cr := (CR.push (x := 3) q2 rfl).mpr rfl
  refine cOk_of (a := aSI (aSI (aSI σ 12 pend.length (Int32.ofNat 3)) 11 1 (Int32.ofNat (pend.length + 1))) 11 3 (Int32.ofNat (nts pend + 1))) ?_ ((f.mono (by decide)).si (by decide)) ⟨?_, ⟨?_, ?_, ?_, ?_, ?_⟩, ?_, ⟨fun _ => ⟨?_, ?_⟩, fun h => absurd h (by decide)⟩⟩ (fun i _ => ?_)
  · rw [e_Rh_RuleReader_readOperand, s_isSignC (d := d + 6) q1, pCI, if_pos hn, bI_f hp, if_pos rfl, t5, if_neg (by decide), s_isNot (d := d + 2) q1, pCI, bI_t hw, if_neg (by decide), t3, if_pos (show Int32.ofNat (nts pend) < 6 from pGoL' (c := 6) (n := 6) rfl hf (by decide)), aw, pCV, pSI_of (by decide), pSI_ne (by decide), t3, pN_s]
  · exact q1.ps (os := [11, 12]) (f.si (by decide)) (by decide) (by decide)
  · rw [pSI_of (by decide)]
    exact cr.1
  · rw [pSI_of (by decide)]
    exact cr.2.1
  · rw [pSI_ne (by decide)]
    exact cr.2.2.1
  · rw [pSI_ne (by decide)]
    exact cr.2.2.2.1
  · rw [pSI_ne (by decide)]
    exact cr.2.2.2.2
  · rw [pSI_of (by decide), pSI_of (by decide), pSI_ne (by decide), q3]
  · rw [pSI_at]
    rfl
  · rw [pSI_of (by decide), pSI_of (by decide), pSI_ne (by decide), t5]
  · rw [pSI_ne (by decide), pSI_ne (by decide), pSI_ne (by decide)]
/-- to a part: neither '(' nor a not -/
theorem c_toPart (q : CE σ T base p pend out true may) (hk : okK pend) (h6 : opn pend < 6) (hp : ¬ tS T (0, p) 40 = true) (hw : ¬ (may = true ∧ tW T (0, p) 35 = true)) {a : aH} (ea : Rn G (d + 8) 49 [.ref 1, .ref 7] σ = oV a) : Rn G (d + 9) 46 [.ref 11, .ref 1, .ref 7] σ = oV (aSI (aSI a 11 3 0) 11 4 0) := by
  have hn := (q.opnlt hk).mpr h6
  obtain ⟨q1, q2, q3, q4⟩ := q
  obtain ⟨t3, t5⟩ := q4.1 rfl
  rw [e_Rh_RuleReader_readOperand, s_isSignC (d := d + 6) q1, pCI, if_pos hn, bI_f hp, if_pos rfl, t5]
  by_cases hm : may = true
  · rw [bI_t hm, if_neg (by decide), s_isNot (d := d + 2) q1, pCI, bI_f (fun h => hw ⟨hm, h⟩), if_pos rfl, ea, pCV]
  · rw [bI_f hm, if_pos rfl, ea, pCV]
theorem s_names (q1 : CS σ T (0, p)) : Rn G (d + 5) 25 [.ref 1, .ref 110] σ = oI (mWh T (0, p) nmL) σ := s_among (G := G) (d := d) (r := 110) (ws := nmL.map KW) so_110 (by decide) (KW_32' (by decide)) q1
/-- a part that has a fault -/
theorem c_partBad (q : CE σ T base p pend out true may) (hk : okK pend) (h6 : opn pend < 6) (hp : ¬ tS T (0, p) 40 = true) (hw : ¬ (may = true ∧ tW T (0, p) 35 = true)) (hb : (tK T p = 2 → ¬ tN T p ≤ 9999) ∧ (tK T p = 1 → ¬ 0 ≤ mWh T (0, p) nmL)) : cBad G d 46 T (if tK T p = 2 then 2 else if tK T p = 1 then 3 else 1, p) σ := by
  have q1 := q.1
  have k5 : tK T p < 5 := tKq_lt T (tQ T p)
  have e4 : σ.1 1 4 = Int32.ofNat (tK T p) := q1.2.2.2.2.2.1
  by_cases h2 : tK T p = 2
  · have e5 : σ.1 1 5 = tN T p := q1.2.2.2.2.2.2.2 h2
    obtain ⟨a, r1, f1, g1⟩ := s_failB (G := G) (d := d + 6) q1 (x := 2) (c := 2) rfl (by decide)
    obtain ⟨b, r2, f2⟩ := s_addA (G := G) (d := d + 5) (σ := a) (x := a.1 1 5)
    have ep : Rn G (d + 8) 49 [.ref 1, .ref 7] σ = oV b := by
      rw [e_Rh_RuleReader_readPart, s_names (d := d + 2) q1, pCI, e4, if_pos (by rw [h2]; rfl), e5, if_neg (hb.1 h2), r1, pCV, r2, pCV]
    rw [if_pos h2]
    exact cBad_of (c_toPart q hk h6 hp hw ep) ((((f1.mono (by decide)).trans (f2.mono (by decide))).si (by decide)).si (by decide)) (CS.ps (os := [7, 10, 11]) g1 (((f2.mono (by decide)).si (by decide)).si (by decide)) (by decide) (by decide)) (by decide)
  · rw [if_neg h2]
    have n2 : ¬ Int32.ofNat (tK T p) = 2 := fun h => h2 ((pEqL (c := 2) (n := 2) rfl (by decide) (by omega)).mp h)
    by_cases h1 : tK T p = 1
    · obtain ⟨a, r1, f1, g1⟩ := s_failB (G := G) (d := d + 6) q1 (x := 3) (c := 3) rfl (by decide)
      obtain ⟨b, r2, f2⟩ := s_addA (G := G) (d := d + 5) (σ := a) (x := 10000 + mWh T (0, p) nmL)
      have ep : Rn G (d + 8) 49 [.ref 1, .ref 7] σ = oV b := by
        rw [e_Rh_RuleReader_readPart, s_names (d := d + 2) q1, pCI, e4, if_neg n2, if_pos (by rw [h1]; rfl), if_neg (hb.2 h1), r1, pCV, r2, pCV]
      rw [if_pos h1]
      exact cBad_of (c_toPart q hk h6 hp hw ep) ((((f1.mono (by decide)).trans (f2.mono (by decide))).si (by decide)).si (by decide)) (CS.ps (os := [7, 10, 11]) g1 (((f2.mono (by decide)).si (by decide)).si (by decide)) (by decide) (by decide)) (by decide)
    · obtain ⟨a, r1, f1, g1⟩ := s_failB (G := G) (d := d + 6) q1 (x := 1) (c := 1) rfl (by decide)
      have ep : Rn G (d + 8) 49 [.ref 1, .ref 7] σ = oV a := by
        rw [e_Rh_RuleReader_readPart, s_names (d := d + 2) q1, pCI, e4, if_neg n2, if_neg (fun h => h1 ((pEqL (c := 1) (n := 1) rfl (by decide) (by omega)).mp h)), r1, pCV]
      rw [if_neg h1]
      exact cBad_of (c_toPart q hk h6 hp hw ep) (((f1.mono (by decide)).si (by decide)).si (by decide)) (CS.ps (os := [11]) g1 ((pSame.rfl'.si (by decide)).si (by decide)) (by decide) (by decide)) (by decide)
/-- a part -/
theorem c_part (q : CE σ T base p pend out true may) (hk : okK pend) (h6 : opn pend < 6) (hp : ¬ tS T (0, p) 40 = true) (hw : ¬ (may = true ∧ tW T (0, p) 35 = true)) (hl : base + out.length < 700) {v : Int32} (hv : (tK T p = 2 ∧ tN T p ≤ 9999 ∧ v = tN T p) ∨ (tK T p = 1 ∧ 0 ≤ mWh T (0, p) nmL ∧ v = 10000 + mWh T (0, p) nmL)) : cOkE G d 46 T base (tE T p) pend (out ++ [v]) false may σ := by
  have q1 := q.1
  have k5 : tK T p < 5 := tKq_lt T (tQ T p)
  have e4 : σ.1 1 4 = Int32.ofNat (tK T p) := q1.2.2.2.2.2.1
  obtain ⟨c1, c2, c3, c4, c5⟩ := q.2.1
  have ep : Rn G (d + 8) 49 [.ref 1, .ref 7] σ = oV (aSI (aSI σ 10 (base + out.length) v) 7 3 (Int32.ofNat (base + out.length + 1))) := by
    rcases hv with ⟨h2, hN, ev⟩ | ⟨h1, hW, ev⟩
    · have e5 : σ.1 1 5 = tN T p := q1.2.2.2.2.2.2.2 h2
      rw [e_Rh_RuleReader_readPart, s_names (d := d + 2) q1, pCI, e4, if_pos (by rw [h2]; rfl), e5, if_pos hN, s_addStep (d := d + 5) c4 hl, pCV, ev]
    · rw [e_Rh_RuleReader_readPart, s_names (d := d + 2) q1, pCI, e4, if_neg (fun h => by have := (pEqL (c := 2) (n := 2) rfl (by decide) (by omega)).mp h; omega), if_pos (by rw [h1]; rfl), if_pos hW, s_addStep (d := d + 5) c4 hl, pCV, ev]
  have el : (out ++ [v]).length = out.length + 1 := by rw [List.length_append]; rfl
  refine cOk_of (c_toPart q hk h6 hp hw ep) ((((pSame.rfl'.si (by decide)).si (by decide)).si (by decide)).si (by decide)) ⟨?_, ⟨?_, ?_, ?_, ?_, ?_⟩, ?_, ⟨fun h => absurd h (by decide), fun _ => ?_⟩⟩ (fun i hi => ?_)
  · exact q1.ps (os := [7, 10, 11]) ((((pSame.rfl'.si (by decide)).si (by decide)).si (by decide)).si (by decide)) (by decide) (by decide)
  · rw [pSI_of (by decide), pSI_of (by decide), pSI_ne (by decide), pSI_ne (by decide), c1]
  · rw [pSI_of (by decide), pSI_of (by decide), pSI_ne (by decide), pSI_ne (by decide), c2]
  · rw [pSI_ne (by decide), pSI_ne (by decide), pSI_ne (by decide), pSI_ne (by decide)]
    exact c3
  · rw [pSI_ne (by decide), pSI_ne (by decide), pSI_at, el, Nat.add_assoc]
  · rw [pSI_ne (by decide), pSI_ne (by decide), pSI_ne (by decide)]
    refine (pSeg_app _ _ _).mpr ⟨pSeg_congr _ _ (fun i h1 h2 => pSI_of (by omega)) c5, ⟨pSI_at, trivial⟩⟩
  · rw [pSI_at]
    rfl
  · rw [pSI_of (by decide), pSI_at]
  · rw [pSI_ne (by decide), pSI_ne (by decide), pSI_ne (by decide), pSI_of (by omega)]
end PCStep
