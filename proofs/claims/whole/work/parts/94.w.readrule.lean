/-! ===== a rule is read, on both sides ===== -/
section PReadRule
variable {G : Nat × (Nat → Int32)} {d d2 : Nat} {T : Tx} {base rd : Nat}
def ruBad (G : Nat × (Nat → Int32)) (d d2 : Nat) (T : Tx) (base rd p c p' : Nat) : Prop := (∀ σ, CS σ T (0, p) → σ.1 7 3 = Int32.ofNat base → ∃ b, Rn G (d + 10) 43 [.ref 11, .ref 1, .ref 7] σ = oV b ∧ pSame sp5 σ b ∧ CS b T (c, p')) ∧ ∀ σ, RS σ T (0, p) → σ.1 33 31 = Int32.ofNat rd → ∃ b s, Rn G (d2 + 6) 83 [.ref 33] σ = oI (Int32.ofNat rd) b ∧ rRu 0 σ b ∧ RS b T s ∧ mNeed T (tS T s 59) s = (c, p')
def ruOk (G : Nat × (Nat → Int32)) (d d2 : Nat) (T : Tx) (base rd p p' : Nat) (o : List Int32) : Prop := (∀ σ, CS σ T (0, p) → σ.1 7 3 = Int32.ofNat base → ∃ b, Rn G (d + 10) 43 [.ref 11, .ref 1, .ref 7] σ = oV b ∧ pSame sp5 σ b ∧ CS b T (0, p') ∧ b.1 7 3 = Int32.ofNat (base + o.length) ∧ pSeg (b.1 10) base o ∧ ∀ i, i < base → b.1 10 i = σ.1 10 i) ∧ ∀ σ, RS σ T (0, p) → σ.1 33 31 = Int32.ofNat rd → ∃ b, Rn G (d2 + 6) 83 [.ref 33] σ = oI (Int32.ofNat rd) b ∧ rRu rd σ b ∧ RS b T (0, p') ∧ b.1 33 31 = Int32.ofNat (rd + (rEnc o).length) ∧ pSeg (b.1 46) rd (rEnc o)
theorem c_start {σ : aH} {p : Nat} (q : CS σ T (0, p)) (e7 : σ.1 7 3 = Int32.ofNat base) : ∃ a, Rn G (d + 10) 43 [.ref 11, .ref 1, .ref 7] σ = Lq G (d + 9) M_43 (27, [some (.ref 11), some (.ref 1), some (.ref 7), some (.int (Int32.ofNat 0))], [], a) ∧ pSame sp5 σ a ∧ CE a T base p [] [] true true ∧ ∀ i, i < base → a.1 10 i = σ.1 10 i := by
  refine ⟨aSI (aSI (aSI (aSI (aSI σ 11 1 0) 11 2 0) 11 3 0) 11 4 1) 11 5 1, ?_, ((((pSame.rfl'.si (by decide)).si (by decide)).si (by decide)).si (by decide)).si (by decide), ⟨?_, ⟨?_, ?_, trivial, ?_, trivial⟩, ?_, fun _ => ⟨?_, pSI_at⟩, fun h => absurd h (by decide)⟩, fun i _ => ?_⟩
  · rw [e_Rh_RuleReader_readRule]
    rfl
  · exact q.ps (os := [11]) (((((pSame.rfl'.si (by decide)).si (by decide)).si (by decide)).si (by decide)).si (by decide)) (by decide) (by decide)
  · rw [pSI_of (by decide), pSI_of (by decide), pSI_of (by decide), pSI_of (by decide), pSI_at]
    rfl
  · rw [pSI_of (by decide), pSI_of (by decide), pSI_of (by decide), pSI_at]
    rfl
  · rw [pSI_ne (by decide), pSI_ne (by decide), pSI_ne (by decide), pSI_ne (by decide), pSI_ne (by decide), e7]
    rfl
  · rw [pSI_of (by decide), pSI_at]
    rfl
  · rw [pSI_of (by decide), pSI_of (by decide), pSI_at]
    rfl
  · rw [pSI_ne (by decide), pSI_ne (by decide), pSI_ne (by decide), pSI_ne (by decide), pSI_ne (by decide)]
theorem r_start {σ : aH} {p : Nat} (q : RS σ T (0, p)) (e31 : σ.1 33 31 = Int32.ofNat rd) : ∃ a, Rn G (d + 6) 83 [.ref 33] σ = (aCV (Lq G (d + 4) M_86 (18, [some (.ref 33), none, some (.int (bI true)), none, some (.int (Int32.ofNat (nts [])))], [], a)) fun σ4 => Lq G (d + 5) M_83 (35, [some (.ref 33), some (.int (Int32.ofNat rd)), some (.int 1), none], [], σ4)) ∧ rRu rd σ a ∧ RS a T (0, p) ∧ RR a rd [] [] := by
  have f0 : rQt rd σ (aSI (aSI σ 33 32 0) 33 33 0) := qt_32.trans qt_33
  have e33 : (aSI (aSI σ 33 32 0) 33 33 0).1 33 33 = Int32.ofNat 0 := pSI_at
  have dp := r_deepOk (G := G) (d := d + 4) e33 (by decide)
  have f1 : rQt rd σ (aSI (aSI (aSI (aSI σ 33 32 0) 33 33 0) 33 33 (Int32.ofNat (0 + 1))) 49 (0 + 1) 0) := (f0.trans qt_33).trans qt_49
  have q1 := q.qt f1
  refine ⟨_, ?_, f1.1, q1, ?_, ?_, trivial, ?_, trivial, pSI_at, trivial⟩
  · rw [e_Md_expression, s_good (d := d + 4) q, pCI, pB0, if_pos rfl, dp, pCV, e31]
    have r := r_86 (G := G) (d := d) (pend := []) (may := true) q1 rfl
    have r' : Rn G (d + 5) 86 [.ref 33, .int 1] (aSI (aSI (aSI (aSI σ 33 32 0) 33 33 0) 33 33 (Int32.ofNat (0 + 1))) 49 (0 + 1) 0) = Lq G (d + 4) M_86 (18, [some (.ref 33), none, some (.int (bI true)), none, some (.int (Int32.ofNat (nts [])))], [], aSI (aSI (aSI (aSI σ 33 32 0) 33 33 0) 33 33 (Int32.ofNat (0 + 1))) 49 (0 + 1) 0) := r
    rw [r']
  · rw [pSI_ne (by decide), pSI_of (by decide), pSI_of (by decide), pSI_at]
    rfl
  · rw [pSI_ne (by decide), pSI_at]
    rfl
  · rw [pSI_ne (by decide), pSI_of (by decide), pSI_of (by decide), pSI_of (by decide), e31]
    rfl
theorem s_rule (hT : T.1 ≤ 700) {p : Nat} (hp : p ≤ T.1) (h3 : 3 ≤ p) (hb : base ≤ p) (hr : 2 * rd ≤ 3 * p) : (∃ c p', c ≠ 0 ∧ p ≤ p' ∧ p' ≤ T.1 ∧ ruBad G d d2 T base rd p c p') ∨ ∃ p' o, p < p' ∧ okR T base rd p' o ∧ ruOk G d d2 T base rd p p' o := by
  have ok0 : okE T base rd p [] [] true true := ⟨trivial, hp, fun _ _ => Nat.zero_le 3, rfl, hb, hr⟩
  rcases op_due (G := G) (d := d) (d2 := d2) (base := base) (rd := rd) hT (T.1 - p + 1) p [] [] true (by omega) ok0 (by decide) with ⟨c, p', a1, a2, a3, b1, b2⟩ | ⟨p1, pend', out', may', a1, a2, a2b, b1, b2⟩
  · refine Or.inl ⟨c, p', a1, a2, a3, fun σ q e7 => ?_, fun σ q e31 => ?_⟩
    · obtain ⟨a, ea, fa, qa, _⟩ := c_start (G := G) (d := d) q e7
      obtain ⟨a', j, ea', fa', qa'⟩ := b1 0 a h3 qa
      obtain ⟨b, e, f, g⟩ := c27_bad (G := G) (d := d) (i := j) qa' a1
      exact ⟨b, (ea.trans ea').trans e, (fa.trans fa').trans f, g⟩
    · obtain ⟨a, ea, fa, qa, ra⟩ := r_start (G := G) (d := d2) q e31
      obtain ⟨a', ea', fa', qa'⟩ := b2 a qa ra
      obtain ⟨b, e, f, g⟩ := r_endF (G := G) (d := d2) (x1 := Int32.ofNat rd) (x2 := 1) (Or.inr rfl) qa'
      refine ⟨b, (c, p'), ?_, (fa.wk.trans fa'.wk).trans f, g, mNeed_c a1⟩
      rw [ea, ea', pCV, e]
  · rcases op_rule (G := G) (d := d) (d2 := d2) (base := base) (rd := rd) (x1 := Int32.ofNat rd) hT (T.1 - p1 + 1) p1 pend' out' may' (by omega) a2 a2b with ⟨c, p'', c1, c2, c3, c4, c5⟩ | ⟨p'', o, c1, c2, c4, c5⟩
    · refine Or.inl ⟨c, p'', c1, by omega, c3, fun σ q e7 => ?_, fun σ q e31 => ?_⟩
      · obtain ⟨a, ea, fa, qa, _⟩ := c_start (G := G) (d := d) q e7
        obtain ⟨a', j, ea', hj, fa', qa', _⟩ := b1 0 a h3 qa
        obtain ⟨b, e, f, g⟩ := c4 j a' hj qa'
        exact ⟨b, (ea.trans ea').trans e, (fa.trans fa').trans f, g⟩
      · obtain ⟨a, ea, fa, qa, ra⟩ := r_start (G := G) (d := d2) q e31
        obtain ⟨a', ea', fa', qa', ra'⟩ := b2 a qa ra
        obtain ⟨b, s, e, f, g⟩ := c5 a' qa' ra'
        refine ⟨b, s, ?_, (fa.wk.trans fa'.wk).trans f, g⟩
        rw [ea, ea', pCV, e]
    · refine Or.inr ⟨p'', o, by omega, c2, fun σ q e7 => ?_, fun σ q e31 => ?_⟩
      · obtain ⟨a, ea, fa, qa, ha⟩ := c_start (G := G) (d := d) q e7
        obtain ⟨a', j, ea', hj, fa', qa', ha'⟩ := b1 0 a h3 qa
        obtain ⟨b, e, f, g, g2, hb'⟩ := c4 j a' hj qa'
        exact ⟨b, (ea.trans ea').trans e, (fa.trans fa').trans f, g, g2.2.2.2.1, g2.2.2.2.2, fun i hi => ((hb' i hi).trans (ha' i hi)).trans (ha i hi)⟩
      · obtain ⟨a, ea, fa, qa, ra⟩ := r_start (G := G) (d := d2) q e31
        obtain ⟨a', ea', fa', qa', ra'⟩ := b2 a qa ra
        obtain ⟨b, e, f, g⟩ := c5 a' qa' ra'
        refine ⟨b, ?_, (fa.trans fa').trans f, g⟩
        rw [ea, ea', pCV, e]
end PReadRule
