/-! ===== operators and operands, on both sides, to the end of a rule ===== -/
def uBad (G : Nat × (Nat → Int32)) (d d2 : Nat) (T : Tx) (base rd p : Nat) (pend : List Nat) (out : List Int32) (may : Bool) (x1 : Int32) (c p' : Nat) : Prop := (∀ i σ, i + 3 ≤ p → CE σ T base p pend out false may → ∃ b, Lq G (d + 9) M_43 (27, [some (.ref 11), some (.ref 1), some (.ref 7), some (.int (Int32.ofNat i))], [], σ) = oV b ∧ pSame sp5 σ b ∧ CS b T (c, p')) ∧ ∀ σ, RS σ T (0, p) → RR σ rd pend out → ∃ b s, Lq G (d2 + 5) M_83 (35, [some (.ref 33), some (.int x1), some (.int 1), none], [], σ) = oI x1 b ∧ rRu 0 σ b ∧ RS b T s ∧ mNeed T (tS T s 59) s = (c, p')
def uOk (G : Nat × (Nat → Int32)) (d d2 : Nat) (T : Tx) (base rd p : Nat) (pend : List Nat) (out : List Int32) (may : Bool) (x1 : Int32) (p' : Nat) (o : List Int32) : Prop := (∀ i σ, i + 3 ≤ p → CE σ T base p pend out false may → ∃ b, Lq G (d + 9) M_43 (27, [some (.ref 11), some (.ref 1), some (.ref 7), some (.int (Int32.ofNat i))], [], σ) = oV b ∧ pSame sp5 σ b ∧ CS b T (0, p') ∧ CR b base [] o ∧ ∀ i, i < base → b.1 10 i = σ.1 10 i) ∧ ∀ σ, RS σ T (0, p) → RR σ rd pend out → ∃ b, Lq G (d2 + 5) M_83 (35, [some (.ref 33), some (.int x1), some (.int 1), none], [], σ) = oI x1 b ∧ rRu rd σ b ∧ RS b T (0, p') ∧ b.1 33 31 = Int32.ofNat (rd + (rEnc o).length) ∧ pSeg (b.1 46) rd (rEnc o)
/-- what a rule that is read whole keeps to -/
def okR (T : Tx) (base rd p : Nat) (o : List Int32) : Prop := p ≤ T.1 ∧ tS T (0, p) 59 = true ∧ pWf o 0 ∧ base + o.length ≤ p ∧ 2 * (rd + (rEnc o).length) ≤ 3 * p + 3
section POpRule
variable {G : Nat × (Nat → Int32)} {d d2 : Nat} {T : Tx} {base rd : Nat} {x1 : Int32}
theorem mNeed_c {s : Nat × Nat} {b : Bool} (h : s.1 ≠ 0) : mNeed T b s = s := if_neg h
theorem rul_step {p p1 : Nat} {pend pend1 : List Nat} {out out1 : List Int32} {may may1 : Bool} (cs : ∀ i σ, i + 3 ≤ p → CE σ T base p pend out false may → ∃ b j, Lq G (d + 9) M_43 (27, [some (.ref 11), some (.ref 1), some (.ref 7), some (.int (Int32.ofNat i))], [], σ) = Lq G (d + 9) M_43 (27, [some (.ref 11), some (.ref 1), some (.ref 7), some (.int (Int32.ofNat j))], [], b) ∧ j + 3 ≤ p1 ∧ pSame sp5 σ b ∧ CE b T base p1 pend1 out1 false may1 ∧ ∀ i, i < base → b.1 10 i = σ.1 10 i) (rs : ∀ σ, RS σ T (0, p) → RR σ rd pend out → ∃ a, Lq G (d2 + 5) M_83 (35, [some (.ref 33), some (.int x1), some (.int 1), none], [], σ) = Lq G (d2 + 5) M_83 (35, [some (.ref 33), some (.int x1), some (.int 1), none], [], a) ∧ rRu rd σ a ∧ RS a T (0, p1) ∧ RR a rd pend1 out1) : (∀ c p', uBad G d d2 T base rd p1 pend1 out1 may1 x1 c p' → uBad G d d2 T base rd p pend out may x1 c p') ∧ ∀ p' o, uOk G d d2 T base rd p1 pend1 out1 may1 x1 p' o → uOk G d d2 T base rd p pend out may x1 p' o := by
  constructor
  · intro c p' ⟨h1, h2⟩
    refine ⟨fun i σ hi q => ?_, fun σ q qr => ?_⟩
    · obtain ⟨a, j, e, hj, fa, qa, _⟩ := cs i σ hi q
      obtain ⟨b, e2, f, g⟩ := h1 j a hj qa
      exact ⟨b, e.trans e2, fa.trans f, g⟩
    · obtain ⟨a, ea, fa, qa, ra⟩ := rs σ q qr
      obtain ⟨b, s, e, f, g⟩ := h2 a qa ra
      exact ⟨b, s, ea.trans e, fa.wk.trans f, g⟩
  · intro p' o ⟨h1, h2⟩
    refine ⟨fun i σ hi q => ?_, fun σ q qr => ?_⟩
    · obtain ⟨a, j, e, hj, fa, qa, ha⟩ := cs i σ hi q
      obtain ⟨b, e2, f, g, g2, hb⟩ := h1 j a hj qa
      exact ⟨b, e.trans e2, fa.trans f, g, g2, fun i hi => (hb i hi).trans (ha i hi)⟩
    · obtain ⟨a, ea, fa, qa, ra⟩ := rs σ q qr
      obtain ⟨b, e, f, g⟩ := h2 a qa ra
      exact ⟨b, ea.trans e, fa.trans f, g⟩
theorem poO_len {b : Nat} : ∀ {l : List Nat}, okK l → 0 < b → (eL (poO b l)).length = (poO b l).length
  | [], _, _ => rfl
  | x :: r, hl, hb => by
    show (eL (if b ≤ opB x then (-(Int32.ofNat x)) :: poO b r else [])).length = (if b ≤ opB x then (-(Int32.ofNat x)) :: poO b r else []).length
    by_cases hx : b ≤ opB x
    · have x0 : 0 < x := by
        rcases Nat.eq_zero_or_pos x with e | e
        · rw [e, opB_0] at hx
          omega
        · exact e
      have el : eL (-(Int32.ofNat x) :: poO b r) = cdO x :: eL (poO b r) := by
        have := eL_app [-(Int32.ofNat x)] (poO b r)
        rw [eL_neg hl.2.1 x0] at this
        exact this
      rw [if_pos hx, el, List.length_cons, List.length_cons, poO_len hl.1 hb]
    · rw [if_neg hx]
      rfl
theorem op_rule (hT : T.1 ≤ 700) : ∀ (n p : Nat) (pend : List Nat) (out : List Int32) (may : Bool), T.1 - p < n → okE T base rd p pend out false may → opn pend < 6 → (∃ c p', c ≠ 0 ∧ p ≤ p' ∧ p' ≤ T.1 ∧ uBad G d d2 T base rd p pend out may x1 c p') ∨ ∃ p' o, p ≤ p' ∧ okR T base rd p' o ∧ uOk G d d2 T base rd p pend out may x1 p' o := by
  intro n
  induction n with
  | zero => intro p _ _ _ h; exact absurd h (Nat.not_lt_zero _)
  | succ n ih =>
    intro p pend out may hn ho h6
    obtain ⟨hk, hp, hm, hpt, hl, hr⟩ := ho
    rw [if_neg (by decide)] at hpt hr
    have l83 := okK_84 hk
    have le : tQ T p ≤ tE T p ∧ tE T p ≤ T.1 ∧ p ≤ tE T p := tE_le hp
    -- what is written when what waits is done
    have wr : ∀ b, 0 < b → (poO b pend).length + (poR b pend).length = pend.length ∧ (out ++ poO b pend).length = out.length + (poO b pend).length ∧ (eL (out ++ poO b pend)).length = (eL out).length + (poO b pend).length ∧ pTo (out ++ poO b pend) 0 (bns (poR b pend) + 1) := by
      intro b hb
      refine ⟨poR_len pend, List.length_append, ?_, pTo_app _ _ _ _ _ hpt (pTo_po hb hk)⟩
      rw [eL_app, List.length_append, poO_len hk hb]
    by_cases hend : opn pend = 0 ∧ tS T (0, p) 59 = true
    · -- the end
      obtain ⟨h0, h59⟩ := hend
      have t0 : tOp T (0, p) = 0 := by
        rcases tOp_split T (0, p) with ⟨e, hs⟩ | ⟨e, hs⟩ | ⟨e, hs⟩ | ⟨e, hs⟩ | ⟨e, hs⟩ | ⟨e, hs⟩ | ⟨e, hs⟩ | ⟨e, hs⟩ | ⟨e, _⟩
        · exact absurd ((tS_iff.mp h59).2.symm.trans (tS_iff.mp hs).2) (by decide)
        · exact absurd ((tS_iff.mp h59).2.symm.trans (tS_iff.mp hs).2) (by decide)
        · exact absurd ((tS_iff.mp h59).2.symm.trans (tS_iff.mp hs).2) (by decide)
        · exact absurd ((tS_iff.mp h59).2.symm.trans (tS_iff.mp hs).2) (by decide)
        · exact absurd ((tS_iff.mp h59).2.symm.trans (tS_iff.mp hs).2) (by decide)
        · exact absurd ((tS_iff.mp h59).2.symm.trans (tS_iff.mp hs).2) (by decide)
        · have a := tW_k hs
          have b := (tS_iff.mp h59).1
          omega
        · have a := tW_k hs
          have b := (tS_iff.mp h59).1
          omega
        · exact e
      have nil := poR_nil hk h0
      obtain ⟨w1, w2, w3, w4⟩ := wr 1 (by decide)
      rw [nil] at w1 w4
      have w1 : (poO 1 pend).length + 0 = pend.length := w1
      refine Or.inr ⟨p, out ++ poO 1 pend, Nat.le_refl p, ⟨hp, h59, pTo_wf _ _ w4, by omega, ?_⟩, fun i σ hi q => ?_, fun σ q qr => ?_⟩
      · rw [eL_enc, List.length_append, w3]
        show 2 * (rd + ((eL out).length + (poO 1 pend).length + 1)) ≤ _
        omega
      · obtain ⟨a, ea, fa, ca, aj, ap⟩ := s_doR (G := G) (d := d + 5) (b := 1) (x2 := 1) rfl (by decide) (by decide) hk q.2.1 (by omega)
        rw [nil] at ca
        refine ⟨a, ?_, fa.mono (by decide), q.1.ps fa (by decide) (by decide), ca, ap⟩
        rw [c27_end q hk (by omega) h0 h59, ea, pCV]
      · obtain ⟨b, e, f, g⟩ := (r_end0 (G := G) (d := d2) (x1 := x1) q qr hk (by omega)).1 h0
        refine ⟨b, ?_, f, g⟩
        rw [r_toEnd q qr hk (fun h => by omega) (Or.inl t0), e]
    · by_cases hc : 0 < opn pend ∧ tS T (0, p) 41 = true
      · -- ')'
        obtain ⟨h0, h41⟩ := hc
        have gt := tE_gt hp (show tK T p ≠ 0 by have := (tS_iff.mp h41).1; have : tK T p = 3 := this; omega)
        obtain ⟨r, hr1, hr2, hr3, hr4⟩ := poR_open hk h0
        obtain ⟨w1, w2, w3, w4⟩ := wr 1 (by decide)
        rw [hr1, List.length_cons] at w1
        rw [hr4] at w4
        have ok1 : okE T base rd (tE T p) r (out ++ poO 1 pend) false may := by
          refine ⟨hr3, le.2.1, fun e => absurd e (by decide), ?_, by omega, ?_⟩
          · rw [if_neg (by decide)]
            exact w4
          · rw [w3, if_neg (by decide)]
            omega
        obtain ⟨st1, st2⟩ := rul_step (G := G) (d := d) (d2 := d2) (base := base) (rd := rd) (x1 := x1) (p := p) (p1 := tE T p) (pend := pend) (pend1 := r) (out := out) (out1 := out ++ poO 1 pend) (may := may) (may1 := may) (fun i σ hi q => by
          obtain ⟨b, gb, fb, qb, hb⟩ := c_close (G := G) (d := d) q hk h0 h41 (by omega) hr1
          exact ⟨b, i + 1, c27_opr q hk (by omega) hend gb, by omega, fb, qb, hb⟩) (fun σ q qr => r_close q qr hk (by omega) h0 h41 hr1)
        rcases ih (tE T p) r (out ++ poO 1 pend) may (by omega) ok1 (by omega) with ⟨c, p', a1, a2, a3, a4⟩ | ⟨p', o, a1, a2, a3⟩
        · exact Or.inl ⟨c, p', a1, by omega, a3, st1 _ _ a4⟩
        · exact Or.inr ⟨p', o, by omega, a2, st2 _ _ a3⟩
      · by_cases hbad : tOp T (0, p) = 0 ∨ (opB (tOp T (0, p)) = 4 ∧ hsT pend = true)
        · -- no operator
          refine Or.inl ⟨1, p, by decide, Nat.le_refl p, hp, fun i σ hi q => ?_, fun σ q qr => ?_⟩
          · have bad : cBad G d 51 T (1, p) σ := by
              by_cases t0 : tOp T (0, p) = 0
              · exact c_opBad q hk hc t0
              · obtain ⟨b4, bt⟩ := hbad.resolve_left t0
                exact c_opTwice q hk hc t0 (by omega) ⟨b4, (hsT_iff hk).mp bt⟩
            obtain ⟨a, ga, fa, qa⟩ := bad
            obtain ⟨b, e, f, g⟩ := c27_bad (G := G) (d := d) (i := i + 1) qa (by decide : (1 : Nat) ≠ 0)
            exact ⟨b, (c27_opr q hk (by omega) hend ga).trans e, fa.trans f, g⟩
          · have te := r_toEnd (G := G) (d := d2) (x1 := x1) q qr hk hc hbad
            obtain ⟨g1, g2⟩ := r_end0 (G := G) (d := d2) (x1 := x1) q qr hk (by omega)
            by_cases h0 : opn pend = 0
            · obtain ⟨b, e, f, g, _⟩ := g1 h0
              have n59 : ¬ tS T (0, p) 59 = true := fun h => hend ⟨h0, h⟩
              refine ⟨b, (0, p), te.trans e, f.wk, g, ?_⟩
              exact (if_pos rfl).trans (if_neg n59)
            · obtain ⟨b, e, f, g⟩ := g2 (by omega)
              exact ⟨b, (1, p), te.trans e, f, g, mNeed_c (by decide : (1 : Nat) ≠ 0)⟩
        · -- an operator, then an operand
          have t0 : tOp T (0, p) ≠ 0 := fun e => hbad (Or.inl e)
          obtain ⟨t1, t2, t3, t4⟩ := tOp_r T p t0
          have n4 : ¬ (opB (tOp T (0, p)) = 4 ∧ tpB (poR 5 pend) = 4) := fun h => hbad (Or.inr ⟨h.1, (hsT_iff hk).mpr h.2⟩)
          have k0 : tK T p ≠ 0 := by
            rcases tOp_split T (0, p) with ⟨e, hs⟩ | ⟨e, hs⟩ | ⟨e, hs⟩ | ⟨e, hs⟩ | ⟨e, hs⟩ | ⟨e, hs⟩ | ⟨e, hs⟩ | ⟨e, hs⟩ | ⟨e, _⟩
            · have a : tK T p = 3 := (tS_iff.mp hs).1
              omega
            · have a : tK T p = 3 := (tS_iff.mp hs).1
              omega
            · have a : tK T p = 3 := (tS_iff.mp hs).1
              omega
            · have a : tK T p = 3 := (tS_iff.mp hs).1
              omega
            · have a : tK T p = 3 := (tS_iff.mp hs).1
              omega
            · have a : tK T p = 3 := (tS_iff.mp hs).1
              omega
            · have a : tK T p = 1 := tW_k hs
              omega
            · have a : tK T p = 1 := tW_k hs
              omega
            · exact absurd e t0
          have gt := tE_gt hp k0
          have rop : ∀ σ, RS σ T (0, p) → RR σ rd pend out → rOpS G d2 T rd p pend out x1 (tOp T (0, p)) σ := by
            intro σ q qr
            have ao := r_andOr (G := G) (d := d2) (x1 := x1) q qr hk (by omega)
            have ar := r_arith (G := G) (d := d2) (x1 := x1) q qr hk (by omega)
            rcases tOp_split T (0, p) with ⟨e, hs⟩ | ⟨e, hs⟩ | ⟨e, hs⟩ | ⟨e, hs⟩ | ⟨e, hs⟩ | ⟨e, hs⟩ | ⟨e, hs⟩ | ⟨e, hs⟩ | ⟨e, _⟩
            · have nt : hsT pend = false := by
                cases h : hsT pend with
                | false => rfl
                | true => exact absurd (Or.inr ⟨by rw [e]; rfl, h⟩) hbad
              rw [e]
              exact (r_test (G := G) (d := d2) (x1 := x1) q qr hk (by omega) nt).1 hs
            · have nt : hsT pend = false := by
                cases h : hsT pend with
                | false => rfl
                | true => exact absurd (Or.inr ⟨by rw [e]; rfl, h⟩) hbad
              rw [e]
              exact (r_test (G := G) (d := d2) (x1 := x1) q qr hk (by omega) nt).2 hs
            · rw [e]
              exact ar.1 hs
            · rw [e]
              exact ar.2.1 hs
            · rw [e]
              exact ar.2.2.1 hs
            · rw [e]
              exact ar.2.2.2 hs
            · rw [e]
              exact ao.2 hs
            · rw [e]
              exact ao.1 hs
            · exact absurd e t0
          have bx : 0 < bPo (tOp T (0, p)) := by
            unfold bPo
            have : 1 ≤ opB (tOp T (0, p)) := by rcases opB_c t2 with e | e | e | e | e | e | e <;> omega
            split <;> omega
          generalize hx : tOp T (0, p) = x at *
          obtain ⟨w1, w2, w3, w4⟩ := wr (bPo x) bx
          have x0 : x ≠ 0 := t0
          have tpx : tpB (poR (bPo x) pend) < opB x := by
            have a := poR_tp bx pend
            by_cases e4 : opB x = 4
            · have eb : bPo x = 5 := if_pos e4
              rw [eb] at a ⊢
              have : tpB (poR 5 pend) ≠ 4 := fun h => n4 ⟨e4, h⟩
              omega
            · have eb : bPo x = opB x := if_neg e4
              rw [eb] at a ⊢
              exact a
          have okx : okK (x :: poR (bPo x) pend) := ⟨poR_ok hk, t2, fun e => absurd e x0, fun e => absurd e t3, fun _ _ => tpx⟩
          have ox : opn (x :: poR (bPo x) pend) = opn pend := by
            show (if x = 0 then _ else opn (poR (bPo x) pend)) = _
            rw [if_neg x0, poR_opn bx]
          have nx : nts (x :: poR (bPo x) pend) = 0 := if_neg t3
          have ok1 : okE T base rd (tE T p) (x :: poR (bPo x) pend) (out ++ poO (bPo x) pend) true (mayO x) := by
            refine ⟨okx, le.2.1, fun _ h => ?_, ?_, ?_, ?_⟩
            · have h2 : x ≤ 2 := of_decide_eq_true h
              show opB x ≤ 3
              rcases opB_c t2 with e | e | e | e | e | e | e <;> omega
            · rw [if_pos rfl]
              show pTo _ 0 ((if x = 0 ∨ x = 3 then bns (poR (bPo x) pend) else bns (poR (bPo x) pend) + 1) + 0)
              rw [if_neg (fun h => h.elim x0 t3)]
              exact w4
            · rw [List.length_cons]
              omega
            · rw [List.length_cons, w3, if_pos rfl]
              omega
          have cop : ∀ i σ, i + 3 ≤ p → CE σ T base p pend out false may → ∃ a, Lq G (d + 9) M_43 (27, [some (.ref 11), some (.ref 1), some (.ref 7), some (.int (Int32.ofNat i))], [], σ) = Lq G (d + 9) M_43 (27, [some (.ref 11), some (.ref 1), some (.ref 7), some (.int (Int32.ofNat (i + 1)))], [], a) ∧ pSame sp5 σ a ∧ CE a T base (tE T p) (x :: poR (bPo x) pend) (out ++ poO (bPo x) pend) true (mayO x) ∧ ∀ i, i < base → a.1 10 i = σ.1 10 i := by
            intro i σ hi q
            subst hx
            obtain ⟨b, gb, fb, qb, hb⟩ := c_op (G := G) (d := d) q hk hc t0 (by omega) n4
            exact ⟨b, c27_opr q hk (by omega) hend gb, fb, qb, hb⟩
          rcases op_due (G := G) (d := d) (d2 := d2) (base := base) (rd := rd) hT n (tE T p) (x :: poR (bPo x) pend) (out ++ poO (bPo x) pend) (mayO x) (by omega) ok1 (by omega) with ⟨c, p', a1, a2, a3, b1, b2⟩ | ⟨p', pend', out', may', a1, a2, a2b, b1, b2⟩
          · refine Or.inl ⟨c, p', a1, by omega, a3, fun i σ hi q => ?_, fun σ q qr => ?_⟩
            · obtain ⟨a, ea, fa, qa, _⟩ := cop i σ hi q
              obtain ⟨a', j, ea', fa', qa'⟩ := b1 (i + 1) a (by omega) qa
              obtain ⟨b, e, f, g⟩ := c27_bad (G := G) (d := d) (i := j) qa' a1
              exact ⟨b, (ea.trans ea').trans e, (fa.trans fa').trans f, g⟩
            · obtain ⟨a, ea, fa, qa, ra⟩ := rop σ q qr
              obtain ⟨a', ea', fa', qa'⟩ := b2 a qa ra
              obtain ⟨b, e, f, g⟩ := r_endF (G := G) (d := d2) (x1 := x1) (x2 := 1) (Or.inr rfl) qa'
              refine ⟨b, (c, p'), ?_, (fa.wk.trans fa'.wk).trans f, g, mNeed_c a1⟩
              rw [ea, r_86 (pend := x :: poR (bPo x) pend) qa nx, ea', pCV, e]
          · obtain ⟨st1, st2⟩ := rul_step (G := G) (d := d) (d2 := d2) (base := base) (rd := rd) (x1 := x1) (p := p) (p1 := p') (pend := pend) (pend1 := pend') (out := out) (out1 := out') (may := may) (may1 := may') (fun i σ hi q => by
              obtain ⟨a, ea, fa, qa, ha⟩ := cop i σ hi q
              obtain ⟨b, j, e, hj, f, g, hb⟩ := b1 (i + 1) a (by omega) qa
              exact ⟨b, j, ea.trans e, hj, fa.trans f, g, fun i hi => (hb i hi).trans (ha i hi)⟩) (fun σ q qr => by
              obtain ⟨a, ea, fa, qa, ra⟩ := rop σ q qr
              obtain ⟨b, e, f, g⟩ := b2 a qa ra
              refine ⟨b, ?_, fa.trans f, g⟩
              rw [ea, r_86 (pend := x :: poR (bPo x) pend) qa nx, e, pCV])
            rcases ih p' pend' out' may' (by omega) a2 a2b with ⟨c, p'', c1, c2, c3, c4⟩ | ⟨p'', o, c1, c2, c3⟩
            · exact Or.inl ⟨c, p'', c1, by omega, c3, st1 _ _ c4⟩
            · exact Or.inr ⟨p'', o, by omega, c2, st2 _ _ c3⟩
end POpRule
