/-! ===== the reference's operators ===== -/
theorem tOp_split (T : Tx) (s : Nat × Nat) : (tOp T s = 4 ∧ tS T s 60 = true) ∨ (tOp T s = 5 ∧ tS T s 61 = true) ∨ (tOp T s = 6 ∧ tS T s 43 = true) ∨ (tOp T s = 7 ∧ tS T s 45 = true) ∨ (tOp T s = 8 ∧ tS T s 42 = true) ∨ (tOp T s = 9 ∧ tS T s 47 = true) ∨ (tOp T s = 1 ∧ tW T s 34 = true) ∨ (tOp T s = 2 ∧ tW T s 33 = true) ∨ (tOp T s = 0 ∧ ¬ tS T s 60 = true ∧ ¬ tS T s 61 = true ∧ ¬ tS T s 43 = true ∧ ¬ tS T s 45 = true ∧ ¬ tS T s 42 = true ∧ ¬ tS T s 47 = true ∧ ¬ tW T s 34 = true ∧ ¬ tW T s 33 = true) := by
  unfold tOp
  by_cases h0 : tS T s 60 = true
  · exact Or.inl ⟨if_pos h0, h0⟩
  rw [if_neg h0]
  by_cases h1 : tS T s 61 = true
  · exact Or.inr (Or.inl ⟨if_pos h1, h1⟩)
  rw [if_neg h1]
  by_cases h2 : tS T s 43 = true
  · exact Or.inr (Or.inr (Or.inl ⟨if_pos h2, h2⟩))
  rw [if_neg h2]
  by_cases h3 : tS T s 45 = true
  · exact Or.inr (Or.inr (Or.inr (Or.inl ⟨if_pos h3, h3⟩)))
  rw [if_neg h3]
  by_cases h4 : tS T s 42 = true
  · exact Or.inr (Or.inr (Or.inr (Or.inr (Or.inl ⟨if_pos h4, h4⟩))))
  rw [if_neg h4]
  by_cases h5 : tS T s 47 = true
  · exact Or.inr (Or.inr (Or.inr (Or.inr (Or.inr (Or.inl ⟨if_pos h5, h5⟩)))))
  rw [if_neg h5]
  by_cases h6 : tW T s 34 = true
  · exact Or.inr (Or.inr (Or.inr (Or.inr (Or.inr (Or.inr (Or.inl ⟨if_pos h6, h6⟩))))))
  rw [if_neg h6]
  by_cases h7 : tW T s 33 = true
  · exact Or.inr (Or.inr (Or.inr (Or.inr (Or.inr (Or.inr (Or.inr (Or.inl ⟨if_pos h7, h7⟩)))))))
  exact Or.inr (Or.inr (Or.inr (Or.inr (Or.inr (Or.inr (Or.inr (Or.inr ⟨if_neg h7, h0, h1, h2, h3, h4, h5, h6, h7⟩)))))))
section PROper
variable {G : Nat × (Nat → Int32)} {d : Nat} {σ : aH} {T : Tx} {rd p : Nat} {pend : List Nat} {out : List Int32}
theorem tS_ne {s : Nat × Nat} {c c' : Int32} (h : tS T s c = true) (hc : c ≠ c') : bI (tS T s c') = 0 := bI_f fun h2 => hc ((tS_iff.mp h).2.symm.trans (tS_iff.mp h2).2)
theorem tS_kn {c : Int32} (q : RS σ T (0, p)) (h : tS T (0, p) c = true) : ¬ kn T (tQ T (0, p).2) = 33 ∧ ¬ kn T (tQ T (0, p).2) = 34 := by
  have k3 : tK T p = 3 := (tS_iff.mp h).1
  refine ⟨fun e => ?_, fun e => ?_⟩
  · have := tW_k ((s_knW q (x := 33) (by decide) rfl).mp e)
    have : tK T p = 1 := this
    omega
  · have := tW_k ((s_knW q (x := 34) (by decide) rfl).mp e)
    have : tK T p = 1 := this
    omega
/-- what is dropped, and what waits then -/
theorem r_dw {b x : Nat} {x1 : Int32} (hx : x1 = Int32.ofNat b ∨ (x1 = 0 ∧ b = 1)) (hb : 0 < b) (hb8 : b < 8) (hk : okK pend) (qr : RR σ rd pend out) (hl : rd + (eL out).length + pend.length < 1200) : ∃ a, Rn G (d + 2) 90 [.ref 33, .int x1] σ = oV a ∧ rQt rd σ a ∧ Rn G (d + 2) 87 [.ref 33, .int (cdO x)] a = oV (aSI (aSI a 47 (poR b pend).length (cdO x)) 33 32 (Int32.ofNat ((poR b pend).length + 1))) ∧ rQt rd σ (aSI (aSI a 47 (poR b pend).length (cdO x)) 33 32 (Int32.ofNat ((poR b pend).length + 1))) ∧ (aSI (aSI a 47 (poR b pend).length (cdO x)) 33 32 (Int32.ofNat ((poR b pend).length + 1))).1 33 33 = σ.1 33 33 ∧ stk cdO ((aSI (aSI a 47 (poR b pend).length (cdO x)) 33 32 (Int32.ofNat ((poR b pend).length + 1))).1 47) (x :: poR b pend) ∧ (aSI (aSI a 47 (poR b pend).length (cdO x)) 33 32 (Int32.ofNat ((poR b pend).length + 1))).1 49 = σ.1 49 ∧ (aSI (aSI a 47 (poR b pend).length (cdO x)) 33 32 (Int32.ofNat ((poR b pend).length + 1))).1 33 31 = Int32.ofNat (rd + (eL (out ++ poO b pend)).length) ∧ pSeg ((aSI (aSI a 47 (poR b pend).length (cdO x)) 33 32 (Int32.ofNat ((poR b pend).length + 1))).1 46) rd (eL (out ++ poO b pend)) := by
  have l83 := (okK_84 (poR_ok (b := b) hk)).1
  obtain ⟨a, ea, fa, a32, a33, a47, a49, a31, a46⟩ := r_dropR (G := G) (d := d) hx hb hb8 hk qr hl
  refine ⟨a, ea, fa, r_wait a32 (by omega), fa.trans qt_wait, ?_, ⟨?_, ?_⟩, ?_, ?_, ?_⟩
  · rw [pSI_of (by decide), pSI_ne (by decide), a33]
  · rw [pSI_ne (by decide), pSI_at]
  · refine stk_congr _ (fun i hi => ?_) a47
    rw [pSI_ne (by decide), pSI_of (by omega)]
  · rw [pSI_ne (by decide), pSI_ne (by decide), a49]
  · rw [pSI_of (by decide), pSI_ne (by decide), a31]
  · rw [pSI_ne (by decide), pSI_ne (by decide)]
    exact a46
/-- the next token, behind an operator -/
theorem r_fin {b x : Nat} {a : aH} (q : RS σ T (0, p)) (qr : RR σ rd pend out) (hb : 0 < b) (hx0 : x ≠ 0) (f : rQt rd σ a) (a32 : a.1 33 32 = Int32.ofNat ((poR b pend).length + 1)) (a33 : a.1 33 33 = σ.1 33 33) (a47 : stk cdO (a.1 47) (x :: poR b pend)) (a31 : a.1 33 31 = Int32.ofNat (rd + (eL (out ++ poO b pend)).length)) (a46 : pSeg (a.1 46) rd (eL (out ++ poO b pend))) (t1 : a.1 49 (opn pend + 1) = bI (hsT (x :: poR b pend))) (t2 : ∀ i, i ≤ opn pend → a.1 49 i = σ.1 49 i) : ∃ c, Rn G (d + 2) 63 [.ref 33] a = oV c ∧ rRu rd σ c ∧ RS c T (0, tE T p) ∧ RR c rd (x :: poR b pend) (out ++ poO b pend) := by
  obtain ⟨r1, r2, r3, r4, r5, r6, r7⟩ := qr
  have eo : opn (x :: poR b pend) = opn pend := by
    show (if x = 0 then _ else opn (poR b pend)) = _
    rw [if_neg hx0, poR_opn hb]
  obtain ⟨c, e, fc, g⟩ := s_goes (G := G) (d := d) (q.qt f) rfl
  refine ⟨c, e, f.1.trans fc.ru, g, RR.fr ⟨a32, ?_, a47, a31, a46, ?_, ?_⟩ fc⟩
  · rw [a33, r2, eo]
  · rw [eo]
    exact t1
  · show if x = 0 then _ else tRs (a.1 49) (poR b pend)
    rw [if_neg hx0]
    refine tRs_congr _ (fun i hi => t2 i ?_) (tRs_po hb r7)
    rw [poR_opn hb] at hi
    exact hi
def rOpS (G : Nat × (Nat → Int32)) (d : Nat) (T : Tx) (rd p : Nat) (pend : List Nat) (out : List Int32) (x1 : Int32) (x : Nat) (σ : aH) : Prop := ∃ a, Lq G (d + 5) M_83 (35, [some (.ref 33), some (.int x1), some (.int 1), none], [], σ) = (aCV (Rn G (d + 5) 86 [.ref 33, .int (bI (mayO x))] a) fun σ27 => Lq G (d + 5) M_83 (35, [some (.ref 33), some (.int x1), some (.int 1), none], [], σ27)) ∧ rRu rd σ a ∧ RS a T (0, tE T p) ∧ RR a rd (x :: poR (bPo x) pend) (out ++ poO (bPo x) pend)
variable {x1 : Int32}
theorem r_andOr (q : RS σ T (0, p)) (qr : RR σ rd pend out) (hk : okK pend) (hl : rd + (eL out).length + pend.length < 1200) : (tW T (0, p) 33 = true → rOpS G d T rd p pend out x1 2 σ) ∧ (tW T (0, p) 34 = true → rOpS G d T rd p pend out x1 1 σ) := by
  have o6 := okK_opn hk
  have r2 := qr.2.1
  have hs : ∀ (b x : Nat), 0 < b → b ≤ 2 → x ≠ 0 → opB x ≠ 4 → hsT (x :: poR b pend) = false := by
    intro b x hb hb2 h0 h4
    show (if x = 0 then false else (opB x == 4) || hsT (poR b pend)) = false
    have := poR_tp hb pend
    rw [if_neg h0, show (opB x == 4) = false from beq_eq_false_iff_ne.mpr h4, Bool.false_or, hsT_lo (poR_ok hk) (by omega)]
  constructor
  · intro hw
    have k33 : kn T (tQ T (0, p).2) = 33 := (s_knW q (x := 33) (by decide) rfl).mpr hw
    obtain ⟨a, e1, fa, e2, f, a33, a47, a49, a31, a46⟩ := r_dw (G := G) (d := d + 3) (b := 2) (x := 2) (x1 := 2) (Or.inl rfl) (by decide) (by decide) hk qr hl
    obtain ⟨c, e3, g⟩ := r_fin (G := G) (d := d + 3) (b := 2) (x := 2) (a := aSI (aSI (aSI a 47 (poR 2 pend).length (cdO 2)) 33 32 (Int32.ofNat ((poR 2 pend).length + 1))) 49 (opn pend + 1) 0) q qr (by decide) (by decide) (f.trans qt_49) (by rw [pSI_ne (by decide), pSI_at]) (by rw [pSI_ne (by decide), a33]) (by rw [pSI_ne (by decide)]; exact a47) (by rw [pSI_ne (by decide), a31]) (by rw [pSI_ne (by decide)]; exact a46) (by rw [pSI_at, hs 2 2 (by decide) (by decide) (by decide) (by decide)]; rfl) (fun i hi => by rw [pSI_of (by omega), a49])
    refine ⟨c, ?_, g⟩
    have e2' : Rn G (d + 5) 87 [.ref 33, .int 4] a = oV (aSI (aSI a 47 (poR 2 pend).length (cdO 2)) 33 32 (Int32.ofNat ((poR 2 pend).length + 1))) := e2
    rw [c_Md_expression_35, if_neg (by decide), s_good (d := d + 4) q, pCI, pB0, if_pos rfl, s_known (d := d + 2) q, pCI, if_pos k33, if_pos k33, e1, pCV, if_pos k33, e2', pCV, a33, r2, pIx (by omega) (by decide), e3, pCV]
    rfl
  · intro hw
    have k34 : kn T (tQ T (0, p).2) = 34 := (s_knW q (x := 34) (by decide) rfl).mpr hw
    have n33 : ¬ kn T (tQ T (0, p).2) = 33 := by rw [k34]; decide
    obtain ⟨a, e1, fa, e2, f, a33, a47, a49, a31, a46⟩ := r_dw (G := G) (d := d + 3) (b := 1) (x := 1) (x1 := 1) (Or.inl rfl) (by decide) (by decide) hk qr hl
    obtain ⟨c, e3, g⟩ := r_fin (G := G) (d := d + 3) (b := 1) (x := 1) (a := aSI (aSI (aSI a 47 (poR 1 pend).length (cdO 1)) 33 32 (Int32.ofNat ((poR 1 pend).length + 1))) 49 (opn pend + 1) 0) q qr (by decide) (by decide) (f.trans qt_49) (by rw [pSI_ne (by decide), pSI_at]) (by rw [pSI_ne (by decide), a33]) (by rw [pSI_ne (by decide)]; exact a47) (by rw [pSI_ne (by decide), a31]) (by rw [pSI_ne (by decide)]; exact a46) (by rw [pSI_at, hs 1 1 (by decide) (by decide) (by decide) (by decide)]; rfl) (fun i hi => by rw [pSI_of (by omega), a49])
    refine ⟨c, ?_, g⟩
    have e2' : Rn G (d + 5) 87 [.ref 33, .int 5] a = oV (aSI (aSI a 47 (poR 1 pend).length (cdO 1)) 33 32 (Int32.ofNat ((poR 1 pend).length + 1))) := e2
    rw [c_Md_expression_35, if_neg (by decide), s_good (d := d + 4) q, pCI, pB0, if_pos rfl, s_known (d := d + 2) q, pCI, if_neg n33, if_pos k34, if_neg n33, e1, pCV, if_neg n33, e2', pCV, a33, r2, pIx (by omega) (by decide), e3, pCV]
    rfl
/-- a test -/
theorem r_test (q : RS σ T (0, p)) (qr : RR σ rd pend out) (hk : okK pend) (hl : rd + (eL out).length + pend.length < 1200) (ht : hsT pend = false) : (tS T (0, p) 60 = true → rOpS G d T rd p pend out x1 4 σ) ∧ (tS T (0, p) 61 = true → rOpS G d T rd p pend out x1 5 σ) := by
  have o6 := okK_opn hk
  have r2 := qr.2.1
  have r6 : σ.1 49 (opn pend + 1) = 0 := by rw [qr.2.2.2.2.2.1, ht]; rfl
  obtain ⟨p1, p2⟩ := po_45 ht
  have go : ∀ (x : Nat), (x = 4 ∨ x = 5) → ∃ a c, Rn G (d + 5) 90 [.ref 33, .int 4] σ = oV a ∧ rQt rd σ a ∧ Rn G (d + 5) 87 [.ref 33, .int (cdO x)] a = oV (aSI (aSI a 47 (poR 4 pend).length (cdO x)) 33 32 (Int32.ofNat ((poR 4 pend).length + 1))) ∧ (aSI (aSI a 47 (poR 4 pend).length (cdO x)) 33 32 (Int32.ofNat ((poR 4 pend).length + 1))).1 33 33 = σ.1 33 33 ∧ Rn G (d + 5) 63 [.ref 33] (aSI (aSI (aSI a 47 (poR 4 pend).length (cdO x)) 33 32 (Int32.ofNat ((poR 4 pend).length + 1))) 49 (opn pend + 1) 1) = oV c ∧ rRu rd σ c ∧ RS c T (0, tE T p) ∧ RR c rd (x :: poR (bPo x) pend) (out ++ poO (bPo x) pend) := by
    intro x hx
    obtain ⟨a, e1, fa, e2, f, a33, a47, a49, a31, a46⟩ := r_dw (G := G) (d := d + 3) (b := 4) (x := x) (x1 := 4) (Or.inl rfl) (by decide) (by decide) hk qr hl
    have x0 : x ≠ 0 := by omega
    have xb : opB x = 4 := by rcases hx with rfl | rfl <;> rfl
    have bp : bPo x = 5 := if_pos xb
    obtain ⟨c, e3, g⟩ := r_fin (G := G) (d := d + 3) (b := 4) (x := x) (a := aSI (aSI (aSI a 47 (poR 4 pend).length (cdO x)) 33 32 (Int32.ofNat ((poR 4 pend).length + 1))) 49 (opn pend + 1) 1) q qr (by decide) x0 (f.trans qt_49) (by rw [pSI_ne (by decide), pSI_at]) (by rw [pSI_ne (by decide), a33]) (by rw [pSI_ne (by decide)]; exact a47) (by rw [pSI_ne (by decide), a31]) (by rw [pSI_ne (by decide)]; exact a46) (by
      rw [pSI_at]
      show 1 = bI (if x = 0 then false else (opB x == 4) || hsT (poR 4 pend))
      rw [if_neg x0, xb]
      rfl) (fun i hi => by rw [pSI_of (by omega), a49])
    rw [bp, ← p1, ← p2]
    exact ⟨a, c, e1, fa, e2, a33, e3, g⟩
  constructor
  · intro hs
    obtain ⟨n33, n34⟩ := tS_kn q hs
    obtain ⟨a, c, e1, fa, e2, a33, e3, g⟩ := go 4 (Or.inl rfl)
    have e2' : Rn G (d + 5) 87 [.ref 33, .int 6] a = oV (aSI (aSI a 47 (poR 4 pend).length (cdO 4)) 33 32 (Int32.ofNat ((poR 4 pend).length + 1))) := e2
    refine ⟨c, ?_, g⟩
    rw [c_Md_expression_35, if_neg (by decide), s_good (d := d + 4) q, pCI, pB0, if_pos rfl, s_known (d := d + 2) q, pCI, if_neg n33, if_neg n34, s_isSignR (d := d + 4) q, pCI, bI_t hs, if_neg (by decide), r2, pIx (by omega) (by decide), if_pos r6, e1, pCV, s_isSignR (d := d + 4) (q.qt fa), pCI, bI_t hs, if_neg (by decide), e2', pCV, a33, r2, pIx (by omega) (by decide), e3, pCV]
    rfl
  · intro hs
    obtain ⟨n33, n34⟩ := tS_kn q hs
    have n60 := tS_ne (c' := 60) hs (by decide)
    obtain ⟨a, c, e1, fa, e2, a33, e3, g⟩ := go 5 (Or.inr rfl)
    have e2' : Rn G (d + 5) 87 [.ref 33, .int 7] a = oV (aSI (aSI a 47 (poR 4 pend).length (cdO 5)) 33 32 (Int32.ofNat ((poR 4 pend).length + 1))) := e2
    refine ⟨c, ?_, g⟩
    rw [c_Md_expression_35, if_neg (by decide), s_good (d := d + 4) q, pCI, pB0, if_pos rfl, s_known (d := d + 2) q, pCI, if_neg n33, if_neg n34, s_isSignR (d := d + 4) q, pCI, n60, if_pos rfl, s_isSignR (d := d + 4) q, pCI, bI_t hs, if_neg (by decide), r2, pIx (by omega) (by decide), if_pos r6, e1, pCV, s_isSignR (d := d + 4) (q.qt fa), pCI, n60, if_pos rfl, e2', pCV, a33, r2, pIx (by omega) (by decide), e3, pCV]
    rfl
/-- what counts with numbers -/
theorem r_arith (q : RS σ T (0, p)) (qr : RR σ rd pend out) (hk : okK pend) (hl : rd + (eL out).length + pend.length < 1200) : (tS T (0, p) 43 = true → rOpS G d T rd p pend out x1 6 σ) ∧ (tS T (0, p) 45 = true → rOpS G d T rd p pend out x1 7 σ) ∧ (tS T (0, p) 42 = true → rOpS G d T rd p pend out x1 8 σ) ∧ (tS T (0, p) 47 = true → rOpS G d T rd p pend out x1 9 σ) := by
  have o6 := okK_opn hk
  have r6 := qr.2.2.2.2.2.1
  have go : ∀ (x b : Nat) (y : Int32), (x = 6 ∨ x = 7 ∨ x = 8 ∨ x = 9) → bPo x = b → 5 ≤ b → b < 8 → y = Int32.ofNat b → ∃ a c, Rn G (d + 5) 90 [.ref 33, .int y] σ = oV a ∧ rQt rd σ a ∧ Rn G (d + 5) 87 [.ref 33, .int (cdO x)] a = oV (aSI (aSI a 47 (poR b pend).length (cdO x)) 33 32 (Int32.ofNat ((poR b pend).length + 1))) ∧ Rn G (d + 5) 63 [.ref 33] (aSI (aSI a 47 (poR b pend).length (cdO x)) 33 32 (Int32.ofNat ((poR b pend).length + 1))) = oV c ∧ rRu rd σ c ∧ RS c T (0, tE T p) ∧ RR c rd (x :: poR (bPo x) pend) (out ++ poO (bPo x) pend) := by
    intro x b y hx hb h5 h8 hy
    obtain ⟨a, e1, fa, e2, f, a33, a47, a49, a31, a46⟩ := r_dw (G := G) (d := d + 3) (b := b) (x := x) (x1 := y) (Or.inl hy) (by omega) h8 hk qr hl
    have x0 : x ≠ 0 := by omega
    have xb : opB x ≠ 4 := by rcases hx with rfl | rfl | rfl | rfl <;> decide
    obtain ⟨c, e3, g⟩ := r_fin (G := G) (d := d + 3) (b := b) (x := x) q qr (by omega) x0 f pSI_at a33 a47 a31 a46 (by
      rw [a49, r6]
      show bI (hsT pend) = bI (if x = 0 then false else (opB x == 4) || hsT (poR b pend))
      rw [if_neg x0, show (opB x == 4) = false from beq_eq_false_iff_ne.mpr xb, Bool.false_or, hsT_po h5]) (fun i hi => by rw [a49])
    rw [hb]
    exact ⟨a, c, e1, fa, e2, e3, g⟩
  refine ⟨fun hs => ?_, fun hs => ?_, fun hs => ?_, fun hs => ?_⟩
  · obtain ⟨n33, n34⟩ := tS_kn q hs
    obtain ⟨a, c, e1, fa, e2, e3, g⟩ := go 6 5 5 (Or.inl rfl) rfl (by decide) (by decide) rfl
    have e2' : Rn G (d + 5) 87 [.ref 33, .int 8] a = oV (aSI (aSI a 47 (poR 5 pend).length (cdO 6)) 33 32 (Int32.ofNat ((poR 5 pend).length + 1))) := e2
    refine ⟨c, ?_, g⟩
    rw [c_Md_expression_35, if_neg (by decide), s_good (d := d + 4) q, pCI, pB0, if_pos rfl, s_known (d := d + 2) q, pCI, if_neg n33, if_neg n34, s_isSignR (d := d + 4) q, pCI, tS_ne (c' := 60) hs (by decide), if_pos rfl, s_isSignR (d := d + 4) q, pCI, tS_ne (c' := 61) hs (by decide), if_pos rfl, s_isSignR (d := d + 4) q, pCI, bI_t hs, if_neg (by decide), e1, pCV, s_isSignR (d := d + 4) (q.qt fa), pCI, bI_t hs, if_neg (by decide), e2', pCV, e3, pCV]
    rfl
  · obtain ⟨n33, n34⟩ := tS_kn q hs
    obtain ⟨a, c, e1, fa, e2, e3, g⟩ := go 7 5 5 (Or.inr (Or.inl rfl)) rfl (by decide) (by decide) rfl
    have e2' : Rn G (d + 5) 87 [.ref 33, .int 9] a = oV (aSI (aSI a 47 (poR 5 pend).length (cdO 7)) 33 32 (Int32.ofNat ((poR 5 pend).length + 1))) := e2
    refine ⟨c, ?_, g⟩
    rw [c_Md_expression_35, if_neg (by decide), s_good (d := d + 4) q, pCI, pB0, if_pos rfl, s_known (d := d + 2) q, pCI, if_neg n33, if_neg n34, s_isSignR (d := d + 4) q, pCI, tS_ne (c' := 60) hs (by decide), if_pos rfl, s_isSignR (d := d + 4) q, pCI, tS_ne (c' := 61) hs (by decide), if_pos rfl, s_isSignR (d := d + 4) q, pCI, tS_ne (c' := 43) hs (by decide), if_pos rfl, s_isSignR (d := d + 4) q, pCI, bI_t hs, if_neg (by decide), e1, pCV, s_isSignR (d := d + 4) (q.qt fa), pCI, tS_ne (c' := 43) hs (by decide), if_pos rfl, e2', pCV, e3, pCV]
    rfl
  · obtain ⟨n33, n34⟩ := tS_kn q hs
    obtain ⟨a, c, e1, fa, e2, e3, g⟩ := go 8 6 6 (Or.inr (Or.inr (Or.inl rfl))) rfl (by decide) (by decide) rfl
    have e2' : Rn G (d + 5) 87 [.ref 33, .int 10] a = oV (aSI (aSI a 47 (poR 6 pend).length (cdO 8)) 33 32 (Int32.ofNat ((poR 6 pend).length + 1))) := e2
    refine ⟨c, ?_, g⟩
    rw [c_Md_expression_35, if_neg (by decide), s_good (d := d + 4) q, pCI, pB0, if_pos rfl, s_known (d := d + 2) q, pCI, if_neg n33, if_neg n34, s_isSignR (d := d + 4) q, pCI, tS_ne (c' := 60) hs (by decide), if_pos rfl, s_isSignR (d := d + 4) q, pCI, tS_ne (c' := 61) hs (by decide), if_pos rfl, s_isSignR (d := d + 4) q, pCI, tS_ne (c' := 43) hs (by decide), if_pos rfl, s_isSignR (d := d + 4) q, pCI, tS_ne (c' := 45) hs (by decide), if_pos rfl, s_isSignR (d := d + 4) q, pCI, bI_t hs, if_neg (by decide), e1, pCV, s_isSignR (d := d + 4) (q.qt fa), pCI, bI_t hs, if_neg (by decide), e2', pCV, e3, pCV]
    rfl
  · obtain ⟨n33, n34⟩ := tS_kn q hs
    obtain ⟨a, c, e1, fa, e2, e3, g⟩ := go 9 6 6 (Or.inr (Or.inr (Or.inr rfl))) rfl (by decide) (by decide) rfl
    have e2' : Rn G (d + 5) 87 [.ref 33, .int 11] a = oV (aSI (aSI a 47 (poR 6 pend).length (cdO 9)) 33 32 (Int32.ofNat ((poR 6 pend).length + 1))) := e2
    refine ⟨c, ?_, g⟩
    rw [c_Md_expression_35, if_neg (by decide), s_good (d := d + 4) q, pCI, pB0, if_pos rfl, s_known (d := d + 2) q, pCI, if_neg n33, if_neg n34, s_isSignR (d := d + 4) q, pCI, tS_ne (c' := 60) hs (by decide), if_pos rfl, s_isSignR (d := d + 4) q, pCI, tS_ne (c' := 61) hs (by decide), if_pos rfl, s_isSignR (d := d + 4) q, pCI, tS_ne (c' := 43) hs (by decide), if_pos rfl, s_isSignR (d := d + 4) q, pCI, tS_ne (c' := 45) hs (by decide), if_pos rfl, s_isSignR (d := d + 4) q, pCI, tS_ne (c' := 42) hs (by decide), if_pos rfl, s_isSignR (d := d + 4) q, pCI, bI_t hs, if_neg (by decide), e1, pCV, s_isSignR (d := d + 4) (q.qt fa), pCI, tS_ne (c' := 42) hs (by decide), if_pos rfl, e2', pCV, e3, pCV]
    rfl
end PROper
