/-! ===== steps of both sides, one by one ===== -/
theorem nat_of {x : Int32} (h : 0 ≤ x) : ∃ n, n < 2147483648 ∧ x = Int32.ofNat n := by
  rw [pLe, show (0 : Int32).toInt = 0 from rfl] at h
  have lt := x.toInt_lt
  have e31 : (2 : Int) ^ 31 = 2147483648 := by decide
  refine ⟨x.toInt.toNat, by omega, ?_⟩
  apply Int32.toInt_inj.mp
  rw [pN_int (by omega)]
  omega
section PSteps
variable {G : Nat × (Nat → Int32)} {d : Nat} {σ : aH} {T : Tx} {base rd p : Nat} {pend : List Nat} {out : List Int32} {may due : Bool}
theorem r_deepOk {D : Nat} (e : σ.1 33 33 = Int32.ofNat D) (hD : D < 6) : Rn G (d + 1) 84 [.ref 33] σ = oV (aSI (aSI σ 33 33 (Int32.ofNat (D + 1))) 49 (D + 1) 0) := by
  rw [e_Md_deeper, e, if_neg (pGoL (c := 6) (n := 6) rfl hD (by decide)), pN_s, pIx (by omega) (by decide)]
theorem r_deepBad (q : RS σ T (0, p)) (e : σ.1 33 33 = 6) : ∃ a, Rn G (d + 2) 84 [.ref 33] σ = oV a ∧ rFr σ a ∧ RS a T (if tS T (0, p) 40 = true ∨ tK T p = 2 ∨ tK T p = 1 then 2 else 1, p) := by
  have q6 := q.2.2.2.2.2
  have k5 : tK T p < 5 := tKq_lt T (tQ T p)
  have e20 : σ.1 33 20 = Int32.ofNat (tK T p) := q6.2.1
  obtain ⟨a2, r2, f2, g2⟩ := s_wrong (G := G) (d := d) q (x := 2) (c := 2) rfl (by decide) (by decide)
  obtain ⟨a1, r1, f1, g1⟩ := s_wrong (G := G) (d := d) q (x := 1) (c := 1) rfl (by decide) (by decide)
  rw [e_Md_deeper, e, if_pos (by decide), e20]
  by_cases h2 : tK T p = 2
  · rw [if_pos (by rw [h2]; rfl), r2, pCV, if_pos (Or.inr (Or.inl h2))]
    exact ⟨a2, rfl, f2, g2⟩
  · rw [if_neg (fun h => h2 ((pEqL (c := 2) (n := 2) rfl (by decide) (by omega)).mp h))]
    by_cases h1 : tK T p = 1
    · rw [if_pos (by rw [h1]; rfl), r2, pCV, if_pos (Or.inr (Or.inr h1))]
      exact ⟨a2, rfl, f2, g2⟩
    · rw [if_neg (fun h => h1 ((pEqL (c := 1) (n := 1) rfl (by decide) (by omega)).mp h)), s_isSignR (d := d) q, pCI]
      by_cases hp : tS T (0, p) 40 = true
      · rw [bI_t hp, if_neg (by decide), r2, pCV, if_pos (Or.inl hp)]
        exact ⟨a2, rfl, f2, g2⟩
      · rw [bI_f hp, if_pos rfl, r1, pCV, if_neg (fun h => h.elim hp fun h => h.elim h2 h1)]
        exact ⟨a1, rfl, f1, g1⟩
/-- something waits, and the next token -/
theorem r_waitGo {x : Nat} {c : Int32} (hx : c = cdO x) (q : RS σ T (0, p)) (qr : RR σ rd pend out) (hl : pend.length < 720) : ∃ a, Rn G (d + 4) 87 [.ref 33, .int c] σ = oV (aSI (aSI σ 47 pend.length c) 33 32 (Int32.ofNat (pend.length + 1))) ∧ Rn G (d + 4) 63 [.ref 33] (aSI (aSI σ 47 pend.length c) 33 32 (Int32.ofNat (pend.length + 1))) = oV a ∧ rRu rd σ a ∧ RS a T (0, tE T p) ∧ a.1 33 32 = Int32.ofNat (pend.length + 1) ∧ a.1 33 33 = σ.1 33 33 ∧ stk cdO (a.1 47) (x :: pend) ∧ a.1 33 31 = σ.1 33 31 ∧ a.1 46 = σ.1 46 ∧ a.1 49 = σ.1 49 := by
  obtain ⟨r1, r2, r3, r4, r5, r6, r7⟩ := qr
  have ft : rQt rd σ (aSI (aSI σ 47 pend.length c) 33 32 (Int32.ofNat (pend.length + 1))) := qt_wait
  obtain ⟨a, e, f, g⟩ := s_goes (G := G) (d := d + 2) (q.qt ft) rfl
  refine ⟨a, r_wait r1 hl, e, ft.1.trans f.ru, g, ?_, ?_, ?_, ?_, ?_, ?_⟩
  · rw [f.2 32 (by omega), pSI_at]
  · rw [f.2 33 (by omega), pSI_of (by decide), pSI_ne (by decide)]
  · rw [f.1.at (by decide), pSI_ne (by decide)]
    exact ⟨pSI_at.trans hx, stk_congr _ (fun i hi => pSI_of (by omega)) r3⟩
  · rw [f.2 31 (by omega), pSI_of (by decide), pSI_ne (by decide)]
  · rw [f.1.at (by decide), pSI_ne (by decide), pSI_ne (by decide)]
  · rw [f.1.at (by decide), pSI_ne (by decide), pSI_ne (by decide)]
theorem r_open (q : RS σ T (0, p)) (qr : RR σ rd pend out) (hk : okK pend) (h5 : opn pend < 5) (hp : tS T (0, p) 40 = true) {x4 : Int32} : ∃ a, Lq G (d + 4) M_86 (18, [some (.ref 33), none, some (.int (bI may)), none, some (.int x4)], [], σ) = Lq G (d + 4) M_86 (18, [some (.ref 33), none, some (.int (bI true)), none, some (.int (Int32.ofNat (nts (0 :: pend))))], [], a) ∧ rRu rd σ a ∧ RS a T (0, tE T p) ∧ RR a rd (0 :: pend) out := by
  have l83 := (okK_84 hk).1
  obtain ⟨a, e1, e2, f, g, a32, a33, a47, a31, a46, a49⟩ := r_waitGo (G := G) (d := d) (x := 0) (c := 12) rfl q qr (by omega)
  obtain ⟨r1, r2, r3, r4, r5, r6, r7⟩ := qr
  have dp := r_deepOk (G := G) (d := d + 3) (a33.trans r2) (by omega)
  have ft : rQt rd a (aSI (aSI a 33 33 (Int32.ofNat (opn pend + 1 + 1))) 49 (opn pend + 1 + 1) 0) := qt_33.trans qt_49
  refine ⟨_, ?_, f.trans ft.1, g.qt ft, ?_, ?_, ?_, ?_, ?_, ?_, ?_, ?_⟩
  · rw [r_toOpen q hp, e1, pCV, e2, pCV, dp, pCV]
    exact r_4 (g.qt ft) rfl
  · rw [pSI_ne (by decide), pSI_of (by decide), a32]
    rfl
  · rw [pSI_ne (by decide), pSI_at]
    rfl
  · rw [pSI_ne (by decide), pSI_ne (by decide)]
    exact a47
  · rw [pSI_ne (by decide), pSI_of (by decide), a31, r4]
  · rw [pSI_ne (by decide), pSI_ne (by decide), a46]
    exact r5
  · exact pSI_at
  · rw [pSI_of (by omega), pSI_ne (by decide), a49]
    exact r6
  · refine tRs_congr pend (fun i hi => ?_) r7
    rw [pSI_of (by omega), pSI_ne (by decide), a49]
theorem r_open5 (q : RS σ T (0, p)) (qr : RR σ rd pend out) (hk : okK pend) (h5 : opn pend = 5) (hp : tS T (0, p) 40 = true) (hb : rd + (eL out).length + pend.length + 1 < 1200) {x4 : Int32} : ∃ a, Lq G (d + 4) M_86 (18, [some (.ref 33), none, some (.int (bI may)), none, some (.int x4)], [], σ) = oV a ∧ rRu rd σ a ∧ RF a T (if tS T (0, tE T p) 40 = true ∨ tK T (tE T p) = 2 ∨ tK T (tE T p) = 1 then 2 else 1, tE T p) := by
  have l83 := (okK_84 hk).1
  obtain ⟨a, e1, e2, f, g, a32, a33, a47, a31, a46, a49⟩ := r_waitGo (G := G) (d := d) (x := 0) (c := 12) rfl q qr (by omega)
  obtain ⟨r1, r2, r3, r4, r5, r6, r7⟩ := qr
  obtain ⟨b, e3, f3, g3⟩ := r_deepBad (G := G) (d := d + 2) g (a33.trans (by rw [r2, h5]; rfl))
  have ne : (if tS T (0, tE T p) 40 = true ∨ tK T (tE T p) = 2 ∨ tK T (tE T p) = 1 then 2 else 1) ≠ 0 := by
    split <;> decide
  refine ⟨b, ?_, f.trans f3.ru, g3, ne, pend.length + 1, rd + (eL out).length, ?_, ?_, by omega, by omega⟩
  · rw [r_toOpen q hp, e1, pCV, e2, pCV, e3, pCV]
    exact r_4F g3 ne
  · rw [f3.2 32 (by omega), a32]
  · rw [f3.2 31 (by omega), a31, r4]
theorem r_notE (q : RS σ T (0, p)) (hw : tW T (0, p) 35 = true) : kn T (tQ T (0, p).2) = 35 := (s_knW q (x := 35) (by decide) rfl).mpr hw
theorem r_not (q : RS σ T (0, p)) (qr : RR σ rd pend out) (hk : okK pend) (hw : tW T (0, p) 35 = true) (hf : nts pend < 6) : ∃ a, Lq G (d + 4) M_86 (18, [some (.ref 33), none, some (.int (bI true)), none, some (.int (Int32.ofNat (nts pend)))], [], σ) = Lq G (d + 4) M_86 (18, [some (.ref 33), none, some (.int (bI true)), none, some (.int (Int32.ofNat (nts (3 :: pend))))], [], a) ∧ rRu rd σ a ∧ RS a T (0, tE T p) ∧ RR a rd (3 :: pend) out := by
  have l83 := (okK_84 hk).1
  obtain ⟨a, e1, e2, f, g, a32, a33, a47, a31, a46, a49⟩ := r_waitGo (G := G) (d := d) (x := 3) (c := 3) rfl q qr (by omega)
  obtain ⟨r1, r2, r3, r4, r5, r6, r7⟩ := qr
  refine ⟨a, ?_, f, g, a32, a33.trans r2, a47, a31.trans r4, by rw [a46]; exact r5, by rw [a49]; exact r6, by rw [a49]; exact r7⟩
  rw [c_Md_operand_18, s_good (d := d + 3) q, pCI, pB0, if_pos rfl, if_neg (show ¬ bI true = 0 by decide), s_known (d := d + 1) q, pCI, if_pos (r_notE q hw), if_neg (fun h => by have := (pEqL (c := 6) (n := 6) rfl (by decide) (by omega)).mp h; omega), s_good (d := d + 3) q, pCI, pB0, if_pos rfl, e1, pCV, e2, pCV, pN_s]
  rfl
theorem r_notFull (q : RS σ T (0, p)) (qr : RR σ rd pend out) (hk : okK pend) (hw : tW T (0, p) 35 = true) (hf : nts pend = 6) (hb : rd + (eL out).length + pend.length + 1 < 1200) : ∃ a, Lq G (d + 4) M_86 (18, [some (.ref 33), none, some (.int (bI true)), none, some (.int (Int32.ofNat (nts pend)))], [], σ) = oV a ∧ rRu rd σ a ∧ RF a T (2, p) := by
  have l83 := (okK_84 hk).1
  obtain ⟨r1, r2, r3, r4, r5, r6, r7⟩ := qr
  obtain ⟨a, e, f, g⟩ := s_wrong (G := G) (d := d + 3) q (x := 2) (c := 2) rfl (by decide) (by decide)
  have g' : RS a T (2, p) := g
  have n2 : ((2, p) : Nat × Nat).1 ≠ 0 := (by decide : (2 : Nat) ≠ 0)
  refine ⟨a, ?_, f.ru, g', n2, pend.length, rd + (eL out).length, (f.2 32 (by omega)).trans r1, (f.2 31 (by omega)).trans r4, by omega, by omega⟩
  rw [c_Md_operand_18, s_good (d := d + 3) q, pCI, pB0, if_pos rfl, if_neg (show ¬ bI true = 0 by decide), s_known (d := d + 1) q, pCI, if_pos (r_notE q hw), hf, if_pos (show Int32.ofNat 6 = 6 from rfl), e, pCV, s_good (d := d + 3) g', pCI, pB0, if_neg n2]
  exact r_18F g' n2
/-! the class's loop -/
theorem s_atEnd (q : CE σ T base p pend out due may) (hk : okK pend) : Rn G (d + 3) 44 [.ref 11, .ref 1] σ = oI (bI (!due && decide (opn pend = 0) && tS T (0, p) 59)) σ := by
  have o6 := okK_opn hk
  rw [e_Rh_RuleReader_isAtEnd, q.2.2.1, q.2.1.2.1]
  cases due with
  | true =>
    rw [if_neg (show ¬ bI true = 0 by decide)]
    rfl
  | false =>
    rw [if_pos (show bI false = 0 from rfl)]
    by_cases h : opn pend = 0
    · rw [if_pos (show Int32.ofNat (opn pend) = 0 by rw [h]; rfl), s_isSignC (d := d) q.1, pCI, show decide (opn pend = 0) = true from decide_eq_true h]
      cases tS T (0, p) 59 <;> rfl
    · rw [if_neg (fun h2 => h ((pEqL (c := 0) (n := 0) rfl (by decide) (by omega)).mp h2)), show decide (opn pend = 0) = false from decide_eq_false h]
      rfl
theorem c27_due {i : Nat} {b : aH} (q : CE σ T base p pend out true may) (hk : okK pend) (hi : i < 700) (g : cGo G d 46 σ b) : Lq G (d + 9) M_43 (27, [some (.ref 11), some (.ref 1), some (.ref 7), some (.int (Int32.ofNat i))], [], σ) = Lq G (d + 9) M_43 (27, [some (.ref 11), some (.ref 1), some (.ref 7), some (.int (Int32.ofNat (i + 1)))], [], b) := by
  obtain ⟨a, e1, e2⟩ := g
  rw [c_Rh_RuleReader_readRule_27, if_neg (pGoL (c := 700) (n := 700) rfl hi (by decide)), if_pos (q.1.z.mpr rfl), s_atEnd (d := d + 6) q hk, pCI, if_pos (show bI (!true && decide (opn pend = 0) && tS T (0, p) 59) = 0 from rfl), q.2.2.1, if_neg (show ¬ bI true = 0 by decide), e1, pCV, e2, pCV, pN_s]
theorem c27_opr {i : Nat} {b : aH} (q : CE σ T base p pend out false may) (hk : okK pend) (hi : i < 700) (hne : ¬ (opn pend = 0 ∧ tS T (0, p) 59 = true)) (g : cGo G d 51 σ b) : Lq G (d + 9) M_43 (27, [some (.ref 11), some (.ref 1), some (.ref 7), some (.int (Int32.ofNat i))], [], σ) = Lq G (d + 9) M_43 (27, [some (.ref 11), some (.ref 1), some (.ref 7), some (.int (Int32.ofNat (i + 1)))], [], b) := by
  obtain ⟨a, e1, e2⟩ := g
  rw [c_Rh_RuleReader_readRule_27, if_neg (pGoL (c := 700) (n := 700) rfl hi (by decide)), if_pos (q.1.z.mpr rfl), s_atEnd (d := d + 6) q hk, pCI, if_pos (bI_f (fun h => hne (by
    rw [Bool.and_eq_true, Bool.and_eq_true, decide_eq_true_iff] at h
    exact ⟨h.1.2, h.2⟩))), q.2.2.1, if_pos (show bI false = 0 from rfl), e1, pCV, e2, pCV, pN_s]
theorem c27_end {i : Nat} (q : CE σ T base p pend out false may) (hk : okK pend) (hi : i < 700) (h0 : opn pend = 0) (h59 : tS T (0, p) 59 = true) : Lq G (d + 9) M_43 (27, [some (.ref 11), some (.ref 1), some (.ref 7), some (.int (Int32.ofNat i))], [], σ) = aCV (Rn G (d + 9) 52 [.ref 11, .ref 7, .int 1] σ) fun σ8 => oV σ8 := by
  rw [c_Rh_RuleReader_readRule_27, if_neg (pGoL (c := 700) (n := 700) rfl hi (by decide)), if_pos (q.1.z.mpr rfl), s_atEnd (d := d + 6) q hk, pCI, if_neg (fun e => bI0.mp e (by rw [h59, show decide (opn pend = 0) = true from decide_eq_true h0]; rfl))]
theorem s_doAny : ∃ b, Rn G (d + 4) 52 [.ref 11, .ref 7, .int 1] σ = oV b ∧ pSame [7, 10, 11] σ b := by
  rw [e_Rh_RuleReader_doPending]
  by_cases h : 0 ≤ σ.1 11 1
  · obtain ⟨n, hn, e⟩ := nat_of h
    rw [e]
    exact s_doA n σ hn
  · rw [c_Rh_RuleReader_doPending_5, if_pos (by rw [pLe] at h ⊢; omega)]
    exact ⟨σ, rfl, pSame.rfl'⟩
theorem c27_bad {s : Nat × Nat} {i : Nat} (q : CS σ T s) (h : s.1 ≠ 0) : ∃ b, Lq G (d + 9) M_43 (27, [some (.ref 11), some (.ref 1), some (.ref 7), some (.int (Int32.ofNat i))], [], σ) = oV b ∧ pSame sp5 σ b ∧ CS b T s := by
  obtain ⟨b, e, f⟩ := s_doAny (G := G) (d := d + 5) (σ := σ)
  refine ⟨b, ?_, f.mono (by decide), q.ps f (by decide) (by decide)⟩
  rw [c_Rh_RuleReader_readRule_27]
  by_cases h7 : (700 : Int32) ≤ Int32.ofNat i
  · rw [if_pos h7, e, pCV]
  · rw [if_neg h7, if_neg (fun e => h (q.z.mp e)), e, pCV]
end PSteps
