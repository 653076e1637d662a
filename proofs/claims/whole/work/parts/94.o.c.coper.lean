/-! ===== the class's operators ===== -/
theorem pLe00 {n : Nat} (hn : n < 2147483648) : Int32.ofNat n ≤ 0 ↔ n = 0 := ⟨fun h => Nat.le_zero.mp ((pN_le (b := 0) hn (by decide)).mp h), fun h => (pN_le (b := 0) hn (by decide)).mpr (by omega)⟩
section PCOper
variable {G : Nat × (Nat → Int32)} {d : Nat} {σ : aH} {T : Tx} {base p : Nat} {pend : List Nat} {out : List Int32} {may : Bool}
def sgI (T : Tx) (p : Nat) : Int32 := if tK T p = 3 then mIx st_112 (T.2 (tQ T p)) 6 0 else -1
theorem tS_iff {s : Nat × Nat} {c : Int32} : tS T s c = true ↔ tK T s.2 = 3 ∧ T.2 (tQ T s.2) = c := by
  unfold tS
  rw [Bool.and_eq_true, beq_iff_eq, decide_eq_true_iff]
theorem s_sgA (q : CS σ T (0, p)) : Rn G (d + 6) 54 [.ref 1, .ref 112] σ = oI (sgI T p) σ := by
  obtain ⟨q1, _, _, q4, q5⟩ := q
  have q2 := q1.2.1
  have k5 : tK T p < 5 := tKq_lt T (tQ T p)
  have lQ : p ≤ tQ T p ∧ tQ T p ≤ T.1 := tQ_le q4
  have e4 : σ.1 1 4 = Int32.ofNat (tK T p) := q5.2.1
  have e3 : σ.1 1 3 = Int32.ofNat (tQ T p) := q5.1
  rw [e_Rh_Tape_signAmong, e4, e3]
  unfold sgI
  by_cases h : tK T p = 3
  · have hlt : tQ T p < T.1 := by
      have : ¬ T.1 ≤ tQ T p := fun e => by
        have : tK T p = 0 := tK0.mpr e
        omega
      omega
    obtain ⟨k, hk, ek⟩ := q1.rng hlt
    rw [if_pos (by rw [h]; rfl), s_byteC q1 (by omega), pCI, tB_in hlt, if_pos h, ek, chr_all k hk, so_112.2.2.2.1, s_index112 (d := d) hk, pCI]
  · rw [if_neg (fun h2 => h ((pEqL (c := 3) (n := 3) rfl (by decide) (by omega)).mp h2)), if_neg h]
theorem tW_k {s : Nat × Nat} {x : Nat} (h : tW T s x = true) : tK T s.2 = 1 := by
  have h : ((tKq T (tQ T s.2) == 1) && wM T (tEq T (tQ T s.2)) (KW x) (tQ T s.2)) = true := h
  rw [Bool.and_eq_true, beq_iff_eq] at h
  exact h.1
theorem op_cases (T : Tx) (p : Nat) : (tOp T (0, p) = 0 ∧ sgI T p = -1 ∧ mWh T (0, p) [34, 33] = -1) ∨ (∃ i, i < 6 ∧ tOp T (0, p) = 4 + i ∧ sgI T p = Int32.ofNat i) ∨ (∃ i, i < 2 ∧ tOp T (0, p) = 1 + i ∧ sgI T p = -1 ∧ mWh T (0, p) [34, 33] = Int32.ofNat i) := by
  have mw : mWh T (0, p) [34, 33] = if tW T (0, p) 34 = true then 0 else if tW T (0, p) 33 = true then 1 else -1 := rfl
  have key : ∀ c : Int32, tS T (0, p) c = true → sgI T p = mIx st_112 c 6 0 := by
    intro c hc
    obtain ⟨a, b⟩ := tS_iff.mp hc
    unfold sgI
    rw [if_pos a, show T.2 (tQ T p) = c from b]
  unfold tOp
  by_cases h0 : tS T (0, p) 60 = true
  · rw [if_pos h0]
    exact Or.inr (Or.inl ⟨0, by decide, rfl, key _ h0⟩)
  rw [if_neg h0]
  by_cases h1 : tS T (0, p) 61 = true
  · rw [if_pos h1]
    exact Or.inr (Or.inl ⟨1, by decide, rfl, key _ h1⟩)
  rw [if_neg h1]
  by_cases h2 : tS T (0, p) 43 = true
  · rw [if_pos h2]
    exact Or.inr (Or.inl ⟨2, by decide, rfl, key _ h2⟩)
  rw [if_neg h2]
  by_cases h3 : tS T (0, p) 45 = true
  · rw [if_pos h3]
    exact Or.inr (Or.inl ⟨3, by decide, rfl, key _ h3⟩)
  rw [if_neg h3]
  by_cases h4 : tS T (0, p) 42 = true
  · rw [if_pos h4]
    exact Or.inr (Or.inl ⟨4, by decide, rfl, key _ h4⟩)
  rw [if_neg h4]
  by_cases h5 : tS T (0, p) 47 = true
  · rw [if_pos h5]
    exact Or.inr (Or.inl ⟨5, by decide, rfl, key _ h5⟩)
  rw [if_neg h5]
  have ns : sgI T p = -1 := by
    unfold sgI
    by_cases h : tK T p = 3
    · have ne : ∀ c : Int32, ¬ tS T (0, p) c = true → ¬ c = T.2 (tQ T p) := fun c hc e => hc (tS_iff.mpr ⟨h, e.symm⟩)
      rw [if_pos h]
      show (if (60 : Int32) = T.2 (tQ T p) then (0 : Int32) else if (61 : Int32) = T.2 (tQ T p) then 1 else if (43 : Int32) = T.2 (tQ T p) then 2 else if (45 : Int32) = T.2 (tQ T p) then 3 else if (42 : Int32) = T.2 (tQ T p) then 4 else if (47 : Int32) = T.2 (tQ T p) then 5 else -1) = -1
      rw [if_neg (ne _ h0), if_neg (ne _ h1), if_neg (ne _ h2), if_neg (ne _ h3), if_neg (ne _ h4), if_neg (ne _ h5)]
    · rw [if_neg h]
  by_cases h6 : tW T (0, p) 34 = true
  · rw [if_pos h6]
    exact Or.inr (Or.inr ⟨0, by decide, rfl, ns, by rw [mw, if_pos h6]; rfl⟩)
  rw [if_neg h6]
  by_cases h7 : tW T (0, p) 33 = true
  · rw [if_pos h7]
    exact Or.inr (Or.inr ⟨1, by decide, rfl, ns, by rw [mw, if_neg h6, if_pos h7]; rfl⟩)
  rw [if_neg h7]
  exact Or.inl ⟨rfl, ns, by rw [mw, if_neg h6, if_neg h7]⟩
def bPo (x : Nat) : Nat := if opB x = 4 then 5 else opB x
def mayO (x : Nat) : Bool := decide (x ≤ 2)
/-- what is known of the state before an operator -/
theorem s_opF {x : Nat} {o v2 : Int32} (ho : o = Int32.ofNat x) (h1 : 1 ≤ x) (h10 : x < 10) (h3 : x ≠ 3) (hv : 0 ≤ v2 ↔ ¬ x ≤ 2) (q : CE σ T base p pend out false may) (hk : okK pend) (hl : base + out.length + pend.length ≤ 700) : (opB x = 4 ∧ tpB (poR 5 pend) = 4 → ∃ b, opF G (d + 8) o v2 σ = oV b ∧ pSame sp5 σ b ∧ CS b T (1, p)) ∧ (¬ (opB x = 4 ∧ tpB (poR 5 pend) = 4) → ∃ b, opF G (d + 8) o v2 σ = oV b ∧ pSame sp5 σ b ∧ CE b T base p (x :: poR (bPo x) pend) (out ++ poO (bPo x) pend) true (mayO x) ∧ ∀ i, i < base → b.1 10 i = σ.1 10 i) := by
  obtain ⟨q1, q2, q3, _, q4⟩ := q
  have b6 : opB x ≤ 6 := by rcases opB_c h10 with e | e | e | e | e | e | e <;> omega
  have b1 : 1 ≤ opB x := by rcases opB_c h10 with e | e | e | e | e | e | e <;> omega
  have l83 := okK_84 (poR_ok (b := bPo x) hk)
  have bp8 : bPo x < 8 ∧ 0 < bPo x := by
    unfold bPo
    split <;> omega
  obtain ⟨a, ea, fa, ca, aj, ap⟩ := s_doR (G := G) (d := d + 4) (x2 := Int32.ofNat (bPo x)) rfl bp8.1 bp8.2 hk q2 hl
  have qa : CS a T (0, p) := q1.ps fa (by decide) (by decide)
  -- it waits
  have aw := s_await (G := G) (d := d + 6) (σ := a) (x := x) (x1 := o) ho ca.1 (by omega)
  have f12 : pSame [11, 12] a (aSI (aSI a 12 (poR (bPo x) pend).length (Int32.ofNat x)) 11 1 (Int32.ofNat ((poR (bPo x) pend).length + 1))) := (pSame.rfl'.si (by decide)).si (by decide)
  have eo : Int32.ofNat (opn (poR (bPo x) pend)) = Int32.ofNat (opn (x :: poR (bPo x) pend)) := by
    show _ = Int32.ofNat (if x = 0 then opn (poR (bPo x) pend) + 1 else opn (poR (bPo x) pend))
    rw [if_neg (by omega)]
  have cr := (CR.push (x := x) ca rfl).mpr eo
  have fin : ∃ b, (if 0 ≤ v2 then (some (.inl none, (aSI (aSI (aSI (aSI a 12 (poR (bPo x) pend).length (Int32.ofNat x)) 11 1 (Int32.ofNat ((poR (bPo x) pend).length + 1))) 11 4 (1 : Int32)) 11 5 (0 : Int32))) : Option (aRs × aH)) else some (.inl none, (aSI (aSI (aSI (aSI a 12 (poR (bPo x) pend).length (Int32.ofNat x)) 11 1 (Int32.ofNat ((poR (bPo x) pend).length + 1))) 11 4 (1 : Int32)) 11 5 (1 : Int32)))) = oV b ∧ pSame sp5 σ b ∧ CE b T base p (x :: poR (bPo x) pend) (out ++ poO (bPo x) pend) true (mayO x) ∧ ∀ i, i < base → b.1 10 i = σ.1 10 i := by
    have mk : ∀ y : Int32, y = bI (mayO x) → pSame sp5 σ (aSI (aSI (aSI (aSI a 12 (poR (bPo x) pend).length (Int32.ofNat x)) 11 1 (Int32.ofNat ((poR (bPo x) pend).length + 1))) 11 4 (1 : Int32)) 11 5 y) ∧ CE (aSI (aSI (aSI (aSI a 12 (poR (bPo x) pend).length (Int32.ofNat x)) 11 1 (Int32.ofNat ((poR (bPo x) pend).length + 1))) 11 4 (1 : Int32)) 11 5 y) T base p (x :: poR (bPo x) pend) (out ++ poO (bPo x) pend) true (mayO x) ∧ ∀ i, i < base → (aSI (aSI (aSI (aSI a 12 (poR (bPo x) pend).length (Int32.ofNat x)) 11 1 (Int32.ofNat ((poR (bPo x) pend).length + 1))) 11 4 (1 : Int32)) 11 5 y).1 10 i = σ.1 10 i := by
      intro y hy
      refine ⟨(((fa.mono (by decide)).trans (f12.mono (by decide))).si (by decide)).si (by decide), ⟨qa.ps (os := [11, 12]) ((f12.si (by decide)).si (by decide)) (by decide) (by decide), ⟨?_, ?_, ?_, ?_, ?_⟩, ?_, fun _ => ⟨?_, ?_⟩, fun h => absurd h (by decide)⟩, fun i hi => ?_⟩
      · rw [pSI_of (by decide), pSI_of (by decide)]
        exact cr.1
      · rw [pSI_of (by decide), pSI_of (by decide)]
        exact cr.2.1
      · rw [pSI_ne (by decide), pSI_ne (by decide)]
        exact cr.2.2.1
      · rw [pSI_ne (by decide), pSI_ne (by decide)]
        exact cr.2.2.2.1
      · rw [pSI_ne (by decide), pSI_ne (by decide)]
        exact cr.2.2.2.2
      · rw [pSI_of (by decide), pSI_at]
        rfl
      · rw [pSI_of (by decide), pSI_of (by decide), pSI_of (by decide), pSI_ne (by decide), aj 3 (by decide), q4 rfl]
        show 0 = Int32.ofNat (if x = 3 then _ else 0)
        rw [if_neg h3]
        rfl
      · rw [pSI_at, hy]
      · rw [pSI_ne (by decide), pSI_ne (by decide), pSI_ne (by decide), pSI_ne (by decide), ap i hi]
    by_cases h2 : x ≤ 2
    · rw [if_neg (fun h => hv.mp h h2)]
      exact ⟨_, rfl, mk 1 (by unfold mayO; rw [show decide (x ≤ 2) = true from decide_eq_true h2]; rfl)⟩
    · rw [if_pos (hv.mpr h2)]
      exact ⟨_, rfl, mk 0 (by unfold mayO; rw [show decide (x ≤ 2) = false from decide_eq_false h2]; rfl)⟩
  have e4 : Int32.ofNat (opB x) = 4 ↔ opB x = 4 := pEqL (c := 4) (n := 4) rfl (by decide) (by omega)
  have sb := s_binds (G := G) (d := d + 7) (σ := σ) h10
  constructor
  · intro ⟨hx, ht⟩
    have eb : bPo x = 5 := if_pos hx
    rw [eb] at ea ca
    have ea : Rn G (d + 8) 52 [.ref 11, .ref 7, .int 5] σ = oV a := ea
    have lb := s_lastB (G := G) (d := d + 6) (poR_ok (b := 5) hk) ca.1 ca.2.2.1
    obtain ⟨c, r1, f1, g1⟩ := s_failB (G := G) (d := d + 7) qa (x := 1) (c := 1) rfl (by decide)
    obtain ⟨e, r2, f2⟩ := s_awaitA (G := G) (d := d + 6) (σ := c) (x := o)
    have fe : pSame [11, 12] c (aSI e 11 4 1) := f2.si (by decide)
    unfold opF
    rw [ho] at r2 ⊢
    rw [sb, pCI, if_pos (e4.mpr hx), ea, pCV, if_pos (e4.mpr hx), lb, pCI, ht, if_pos (show Int32.ofNat 4 = 4 from rfl), r1, pCV, r2, pCV]
    by_cases h0 : 0 ≤ v2
    · rw [if_pos h0]
      exact ⟨_, rfl, ((fa.mono (by decide)).trans (f1.mono (by decide))).trans ((fe.si (by decide)).mono (by decide)), g1.ps (os := [11, 12]) (fe.si (by decide)) (by decide) (by decide)⟩
    · rw [if_neg h0]
      exact ⟨_, rfl, ((fa.mono (by decide)).trans (f1.mono (by decide))).trans ((fe.si (by decide)).mono (by decide)), g1.ps (os := [11, 12]) (fe.si (by decide)) (by decide) (by decide)⟩
  · intro hn
    unfold opF
    rw [ho] at aw ⊢
    rw [sb, pCI]
    by_cases hx : opB x = 4
    · have eb : bPo x = 5 := if_pos hx
      have ea' : Rn G (d + 8) 52 [.ref 11, .ref 7, .int 5] σ = oV a := by
        rw [eb] at ea
        exact ea
      have ok5 := poR_ok (b := bPo x) hk
      have lb := s_lastB (G := G) (d := d + 6) ok5 ca.1 ca.2.2.1
      have t6 := tpB_le ok5
      rw [if_pos (e4.mpr hx), ea', pCV, if_pos (e4.mpr hx), lb, pCI, if_neg (fun h => hn ⟨hx, by
        rw [← eb]
        exact (pEqL (c := 4) (n := 4) rfl (by decide) (by omega)).mp h⟩), aw, pCV]
      exact fin
    · have eb : bPo x = opB x := if_neg hx
      have ea' : Rn G (d + 8) 52 [.ref 11, .ref 7, .int (Int32.ofNat (opB x))] σ = oV a := by
        rw [eb] at ea
        exact ea
      rw [if_neg (fun h => hx (e4.mp h)), ea', pCV, if_neg (fun h => hx (e4.mp h)), aw, pCV]
      exact fin
theorem s_orAnd (q : CS σ T (0, p)) : Rn G (d + 5) 25 [.ref 1, .ref 114] σ = oI (mWh T (0, p) [34, 33]) σ := s_among (G := G) (d := d) (r := 114) (ws := [34, 33].map KW) so_114 (by decide) (KW_32' (by decide)) q
theorem opG_of (q : CE σ T base p pend out false may) : opG G (d + 8) σ = if tOp T (0, p) = 0 then aCV (Rn G (d + 8) 30 [.ref 1, .int (1 : Int32)] σ) fun σ69 => some (.inl none, σ69) else opF G (d + 8) (Int32.ofNat (tOp T (0, p))) (sgI T p) σ := by
  unfold opG
  rw [s_sgA (d := d + 2) q.1, pCI, s_orAnd (d := d + 3) q.1, pCI]
  rcases op_cases T p with ⟨a, b, c⟩ | ⟨i, hi, a, b⟩ | ⟨i, hi, a, b, c⟩
  · rw [a, b, c, if_neg (by decide), if_neg (by decide), if_pos rfl]
  · rw [a, b, if_neg (show ¬ 4 + i = 0 by omega), if_pos (pN_0 (by omega)), if_neg (pN_n0 (by omega)), show (4 : Int32) + Int32.ofNat i = Int32.ofNat (4 + i) from (Int32.ofNat_add 4 i).symm]
  · rw [a, b, c, if_neg (show ¬ 1 + i = 0 by omega), if_neg (by decide), if_pos (pN_0 (by omega)), if_pos (by decide), show (1 : Int32) + Int32.ofNat i = Int32.ofNat (1 + i) from (Int32.ofNat_add 1 i).symm]
theorem c_noClose (q : CE σ T base p pend out false may) (hk : okK pend) (hc : ¬ (0 < opn pend ∧ tS T (0, p) 41 = true)) : Rn G (d + 9) 51 [.ref 11, .ref 1, .ref 7] σ = opG G (d + 8) σ := by
  have o6 := okK_opn hk
  rw [op_eq, q.2.1.2.1]
  by_cases h0 : 0 < opn pend
  · rw [if_neg (show ¬ Int32.ofNat (opn pend) ≤ 0 from fun h => absurd ((pLe00 (by omega)).mp h) (by omega)), s_isSignC (d := d + 6) q.1, pCI, bI_f (fun h => hc ⟨h0, h⟩), if_pos rfl]
  · rw [if_pos (show Int32.ofNat (opn pend) ≤ 0 from (pLe00 (by omega)).mpr (by omega))]
theorem c_opBad (q : CE σ T base p pend out false may) (hk : okK pend) (hc : ¬ (0 < opn pend ∧ tS T (0, p) 41 = true)) (h0 : tOp T (0, p) = 0) : cBad G d 51 T (1, p) σ := by
  obtain ⟨a, r1, f1, g1⟩ := s_failB (G := G) (d := d + 7) q.1 (x := 1) (c := 1) rfl (by decide)
  refine cBad_of (a := a) ?_ (f1.mono (by decide)) g1 (by decide)
  rw [c_noClose q hk hc, opG_of q, if_pos h0, r1, pCV]
theorem tOp_r (T : Tx) (p : Nat) (h : tOp T (0, p) ≠ 0) : 1 ≤ tOp T (0, p) ∧ tOp T (0, p) < 10 ∧ tOp T (0, p) ≠ 3 ∧ (0 ≤ sgI T p ↔ ¬ tOp T (0, p) ≤ 2) := by
  rcases op_cases T p with ⟨a, b, c⟩ | ⟨i, hi, a, b⟩ | ⟨i, hi, a, b, c⟩
  · exact absurd a h
  · rw [a, b]
    exact ⟨by omega, by omega, by omega, fun _ => by omega, fun _ => pN_0 (by omega)⟩
  · rw [a, b]
    exact ⟨by omega, by omega, by omega, fun h => absurd h (by decide), fun h => by omega⟩
theorem c_opTwice (q : CE σ T base p pend out false may) (hk : okK pend) (hc : ¬ (0 < opn pend ∧ tS T (0, p) 41 = true)) (h0 : tOp T (0, p) ≠ 0) (hl : base + out.length + pend.length ≤ 700) (h4 : opB (tOp T (0, p)) = 4 ∧ tpB (poR 5 pend) = 4) : cBad G d 51 T (1, p) σ := by
  obtain ⟨t1, t2, t3, t4⟩ := tOp_r T p h0
  obtain ⟨b, e, f, g⟩ := (s_opF (G := G) (d := d) (o := Int32.ofNat (tOp T (0, p))) (v2 := sgI T p) rfl t1 t2 t3 t4 q hk hl).1 h4
  refine cBad_of (a := b) ?_ f g (by decide)
  rw [c_noClose q hk hc, opG_of q, if_neg h0, e]
theorem c_op (q : CE σ T base p pend out false may) (hk : okK pend) (hc : ¬ (0 < opn pend ∧ tS T (0, p) 41 = true)) (h0 : tOp T (0, p) ≠ 0) (hl : base + out.length + pend.length ≤ 700) (h4 : ¬ (opB (tOp T (0, p)) = 4 ∧ tpB (poR 5 pend) = 4)) : cOkE G d 51 T base (tE T p) (tOp T (0, p) :: poR (bPo (tOp T (0, p))) pend) (out ++ poO (bPo (tOp T (0, p))) pend) true (mayO (tOp T (0, p))) σ := by
  obtain ⟨t1, t2, t3, t4⟩ := tOp_r T p h0
  obtain ⟨b, e, f, g, h10⟩ := (s_opF (G := G) (d := d) (o := Int32.ofNat (tOp T (0, p))) (v2 := sgI T p) rfl t1 t2 t3 t4 q hk hl).2 h4
  refine cOk_of (a := b) ?_ f g h10
  rw [c_noClose q hk hc, opG_of q, if_neg h0, e]
theorem c_close (q : CE σ T base p pend out false may) (hk : okK pend) (h0 : 0 < opn pend) (hp : tS T (0, p) 41 = true) (hl : base + out.length + pend.length ≤ 700) {r : List Nat} (hr : poR 1 pend = 0 :: r) : cOkE G d 51 T base (tE T p) r (out ++ poO 1 pend) false may σ := by
  obtain ⟨q1, q2, q3, _, q4⟩ := q
  have o6 := okK_opn hk
  obtain ⟨a, ea, fa, ca, aj, ap⟩ := s_doR (G := G) (d := d + 4) (x2 := 1) (b := 1) rfl (by decide) (by decide) hk q2 hl
  have qa : CS a T (0, p) := q1.ps fa (by decide) (by decide)
  have eo : opn (0 :: r) = opn pend := by rw [← hr, poR_opn (by decide)]
  have eo : opn r + 1 = opn pend := eo
  rw [hr] at ca
  obtain ⟨c1, c2, c3, c4, c5⟩ := ca
  have c1 : a.1 11 1 = Int32.ofNat (r.length + 1) := c1
  have c2 : a.1 11 2 = Int32.ofNat (opn r + 1) := c2
  refine cOk_of (a := aSI (aSI a 11 1 (Int32.ofNat r.length)) 11 2 (Int32.ofNat (opn r))) ?_ (((fa.mono (by decide)).si (by decide)).si (by decide)) ⟨qa.ps (os := [11]) ((pSame.rfl'.si (by decide)).si (by decide)) (by decide) (by decide), ⟨?_, pSI_at, ?_, ?_, ?_⟩, ?_, fun h => absurd h (by decide), fun _ => ?_⟩ (fun i hi => ?_)
  · have l83 := (okK_84 (poR_ok (b := 1) hk)).1
    rw [hr, List.length_cons] at l83
    rw [op_eq, q2.2.1, if_neg (show ¬ Int32.ofNat (opn pend) ≤ 0 from fun h => absurd ((pLe00 (by omega)).mp h) (by omega)), s_isSignC (d := d + 6) q1, pCI, bI_t hp, if_neg (by decide), ea, pCV, c1, c2, show Int32.ofNat (r.length + 1) - 1 = Int32.ofNat r.length from pS1 (by omega), show Int32.ofNat (opn r + 1) - 1 = Int32.ofNat (opn r) from pS1 (by omega)]
  · rw [pSI_of (by decide), pSI_at]
  · rw [pSI_ne (by decide), pSI_ne (by decide)]
    exact c3.2
  · rw [pSI_ne (by decide), pSI_ne (by decide)]
    exact c4
  · rw [pSI_ne (by decide), pSI_ne (by decide)]
    exact c5
  · rw [pSI_of (by decide), pSI_of (by decide), aj 4 (by decide), q3]
  · rw [pSI_of (by decide), pSI_of (by decide), aj 3 (by decide), q4 rfl]
  · rw [pSI_ne (by decide), pSI_ne (by decide), ap i hi]
end PCOper
