/-! ===== the reference's operands ===== -/
section PRStep
variable {G : Nat × (Nat → Int32)} {d : Nat} {σ : aH} {T : Tx} {rd p : Nat} {pend : List Nat} {out : List Int32} {may : Bool}
theorem eL_one {v : Int32} (hv : 0 ≤ v) : eL [v] = if v < 10000 then [1, v] else [2, v - 10000] := by
  show (if 0 ≤ v then (if v < 10000 then 1 :: v :: eL [] else 2 :: (v - 10000) :: eL []) else rOp v :: eL []) = _
  rw [if_pos hv]
  rfl
/-- two steps are put -/
theorem r_put2 {n : Nat} {x y : Int32} (e : σ.1 33 31 = Int32.ofNat n) (hn : n + 1 < 1200) (hr : rd ≤ n) : ∃ b, Rn G (d + 1) 89 [.ref 33, .int x] σ = oV (aSI (aSI σ 46 n x) 33 31 (Int32.ofNat (n + 1))) ∧ Rn G (d + 1) 89 [.ref 33, .int y] (aSI (aSI σ 46 n x) 33 31 (Int32.ofNat (n + 1))) = oV b ∧ rQt rd σ b ∧ b.1 33 31 = Int32.ofNat (n + 2) ∧ b.1 33 32 = σ.1 33 32 ∧ b.1 33 33 = σ.1 33 33 ∧ b.1 47 = σ.1 47 ∧ b.1 49 = σ.1 49 ∧ b.1 46 n = x ∧ b.1 46 (n + 1) = y ∧ ∀ i, i < n → b.1 46 i = σ.1 46 i := by
  refine ⟨_, r_put e (by omega), r_put pSI_at hn, (qt_put hr).trans (qt_put (by omega)), pSI_at, ?_, ?_, ?_, ?_, ?_, ?_, fun i hi => ?_⟩
  · rw [pSI_of (by decide), pSI_ne (by decide), pSI_of (by decide), pSI_ne (by decide)]
  · rw [pSI_of (by decide), pSI_ne (by decide), pSI_of (by decide), pSI_ne (by decide)]
  · rw [pSI_ne (by decide), pSI_ne (by decide), pSI_ne (by decide), pSI_ne (by decide)]
  · rw [pSI_ne (by decide), pSI_ne (by decide), pSI_ne (by decide), pSI_ne (by decide)]
  · rw [pSI_ne (by decide), pSI_of (by omega), pSI_ne (by decide), pSI_at]
  · rw [pSI_ne (by decide), pSI_at]
  · rw [pSI_ne (by decide), pSI_of (by omega), pSI_ne (by decide), pSI_of (by omega)]
theorem r_part (q : RS σ T (0, p)) (qr : RR σ rd pend out) (hb : rd + (eL out).length + 1 < 1200) {v : Int32} (hv : (tK T p = 2 ∧ tN T p ≤ 9999 ∧ v = tN T p) ∨ (tK T p = 1 ∧ 0 ≤ mWh T (0, p) nmL ∧ v = 10000 + mWh T (0, p) nmL)) : ∃ a, Rn G (d + 4) 88 [.ref 33] σ = oV a ∧ rRu rd σ a ∧ RS a T (0, tE T p) ∧ RR a rd pend (out ++ [v]) := by
  have q6 := q.2.2.2.2.2
  have k5 : tK T p < 5 := tKq_lt T (tQ T p)
  have q2 := q.1.2.1
  have q4 : p ≤ T.1 := q.2.2.2.1
  have lQ := tQ_le q4
  have lE := tEq_le lQ.2
  have e20 : σ.1 33 20 = Int32.ofNat (tK T p) := q6.2.1
  have e22 : σ.1 33 22 = Int32.ofNat (tEq T (tQ T p) - tQ T p) := q6.2.2.2.1
  obtain ⟨r1, r2, r3, r4, r5, r6, r7⟩ := qr
  have fin : ∀ (x y : Int32), eL [v] = [x, y] → ∃ a, (aCV (Rn G (d + 3) 89 [.ref 33, .int x] σ) fun σ3 => aCV (Rn G (d + 3) 89 [.ref 33, .int y] σ3) fun σ4 => aCI (Rn G (d + 3) 67 [.ref 33] σ4) fun v6 σ5 => if v6 = 0 then (oV σ5 : Option (aRs × aH)) else aCV (Rn G (d + 3) 63 [.ref 33] σ5) fun σ7 => oV σ7) = oV a ∧ rRu rd σ a ∧ RS a T (0, tE T p) ∧ RR a rd pend (out ++ [v]) := by
    intro x y ex
    obtain ⟨b, e1, e2, fb, b31, b32, b33, b47, b49, bx, by', bp⟩ := r_put2 (G := G) (d := d + 2) (σ := σ) (rd := rd) (x := x) (y := y) r4 hb (by omega)
    have qb := q.qt fb
    obtain ⟨a, e3, f3, g3⟩ := s_goes (G := G) (d := d + 1) qb rfl
    rw [e1, pCV, e2, pCV, s_good (d := d + 2) qb, pCI, pB0, if_pos rfl, e3, pCV]
    have rr : RR b rd pend (out ++ [v]) := by
      refine ⟨b32.trans r1, b33.trans r2, by rw [b47]; exact r3, ?_, ?_, by rw [b49]; exact r6, by rw [b49]; exact r7⟩
      · rw [b31, eL_app, ex, List.length_append]
        rfl
      · rw [eL_app, ex]
        exact (pSeg_app _ _ _).mpr ⟨pSeg_congr _ _ (fun i h1 h2 => bp i h2) r5, bx, by', trivial⟩
    exact ⟨a, rfl, fb.1.trans f3.ru, g3, rr.fr f3⟩
  rw [e_Md_part, s_good (d := d + 2) q, pCI, pB0, if_pos rfl, e20]
  rcases hv with ⟨h2, hN, ev⟩ | ⟨h1, hW, ev⟩
  · have t := tN_nat h2
    have h4 := t.2.mp hN
    obtain ⟨n, hn, en⟩ := t.1 h4
    have e23 : σ.1 33 23 = tN T p := q6.2.2.2.2.2.1 h2 h4
    rw [if_pos (by rw [h2]; rfl), e22, if_pos (show Int32.ofNat (tEq T (tQ T p) - tQ T p) ≤ 4 from (pN_le (b := 4) (by omega) (by decide)).mpr h4)]
    have e1 := r_put (G := G) (d := d + 2) (x := 1) r4 (show rd + (eL out).length < 1200 by omega)
    obtain ⟨a, ea, ra⟩ := fin 1 (tN T p) (by
      rw [eL_one (by rw [ev, en]; exact pN_0 (by omega)), if_pos (by rw [ev, en]; exact (pN_lt (b := 10000) (by omega) (by decide)).mpr hn), ev])
    refine ⟨a, ?_, ra⟩
    rw [e1, pCV] at ea ⊢
    rw [show (aSI (aSI σ 46 (rd + (eL out).length) 1) 33 31 (Int32.ofNat (rd + (eL out).length + 1))).1 33 23 = tN T p from by rw [pSI_of (by decide), pSI_ne (by decide), e23]]
    exact ea
  · obtain ⟨k, hk, ek, kk⟩ := nm_kn.1 hW
    have kk : kn T (tQ T p) = Int32.ofNat k := kk
    have ad : (10000 : Int32) + Int32.ofNat k = Int32.ofNat (10000 + k) := (Int32.ofNat_add 10000 k).symm
    rw [if_neg (fun h => by have := (pEqL (c := 2) (n := 2) rfl (by decide) (by omega)).mp h; omega), if_pos (by rw [h1]; rfl), s_known (d := d) q, pCI, show kn T (tQ T (0, p).2) = Int32.ofNat k from kk, if_neg (pN_n0 (by omega)), if_pos (show Int32.ofNat k ≤ 11 from (pN_le (b := 11) (by omega) (by decide)).mpr (by omega))]
    refine fin 2 (Int32.ofNat k) ?_
    rw [ev, ek, ad, eL_one (pN_0 (by omega)), if_neg (show ¬ Int32.ofNat (10000 + k) < 10000 from fun h => absurd ((pN_lt (b := 10000) (by omega) (by decide)).mp h) (by omega)), show (10000 : Int32) = Int32.ofNat 10000 from rfl, pSubN (by omega), Nat.add_sub_cancel_left]
/-- behind a fault a part is none -/
theorem r_partF {s : Nat × Nat} (q : RS σ T s) (h : s.1 ≠ 0) : Rn G (d + 4) 88 [.ref 33] σ = oV σ := by
  rw [e_Md_part, s_good (d := d + 2) q, pCI, pB0, if_neg h]
theorem r_partBad (q : RS σ T (0, p)) (qr : RR σ rd pend out) (hb : rd + (eL out).length + pend.length + 2 < 1200) (hw : pend.length < 720) (hn : (tK T p = 2 → ¬ tN T p ≤ 9999) ∧ (tK T p = 1 → ¬ 0 ≤ mWh T (0, p) nmL)) : ∃ a, Rn G (d + 4) 88 [.ref 33] σ = oV a ∧ rRu rd σ a ∧ RF a T (if tK T p = 2 then 2 else if tK T p = 1 then 3 else 1, p) := by
  have q6 := q.2.2.2.2.2
  have k5 : tK T p < 5 := tKq_lt T (tQ T p)
  have q2 := q.1.2.1
  have q4 : p ≤ T.1 := q.2.2.2.1
  have lQ := tQ_le q4
  have lE := tEq_le lQ.2
  have e20 : σ.1 33 20 = Int32.ofNat (tK T p) := q6.2.1
  have e22 : σ.1 33 22 = Int32.ofNat (tEq T (tQ T p) - tQ T p) := q6.2.2.2.1
  obtain ⟨r1, r2, r3, r4, r5, r6, r7⟩ := qr
  have two : ∀ (c : Nat) (x y : Int32) (a : aH), c ≠ 0 → RS a T (c, p) → rRu rd σ a → a.1 33 31 = σ.1 33 31 → a.1 33 32 = σ.1 33 32 → ∃ b, (aCV (Rn G (d + 3) 89 [.ref 33, .int x] a) fun σ3 => aCV (Rn G (d + 3) 89 [.ref 33, .int y] σ3) fun σ4 => aCI (Rn G (d + 3) 67 [.ref 33] σ4) fun v6 σ5 => if v6 = 0 then (oV σ5 : Option (aRs × aH)) else aCV (Rn G (d + 3) 63 [.ref 33] σ5) fun σ7 => oV σ7) = oV b ∧ rRu rd σ b ∧ RF b T (c, p) := by
    intro c x y a hc qa fa a31 a32
    obtain ⟨b, e1, e2, fb, b31, b32, b33, b47, b49, bx, by', bp⟩ := r_put2 (G := G) (d := d + 2) (σ := a) (rd := rd) (x := x) (y := y) (a31.trans r4) (by omega) (by omega)
    have qb := qa.qt fb
    rw [e1, pCV, e2, pCV, s_good (d := d + 2) qb, pCI, pB0, if_neg hc]
    exact ⟨b, rfl, fa.trans fb.1, qb, hc, pend.length, rd + (eL out).length + 2, b32.trans (a32.trans r1), b31, hw, by omega⟩
  have wr : ∀ (x : Int32) (c : Nat), x = Int32.ofNat c → c < 5 → 0 < c → ∃ a, Rn G (d + 3) 73 [.ref 33, .int x] σ = oV a ∧ RS a T (c, p) ∧ rRu rd σ a ∧ a.1 33 31 = σ.1 33 31 ∧ a.1 33 32 = σ.1 33 32 ∧ a.1 33 23 = σ.1 33 23 := by
    intro x c hx hc c0
    obtain ⟨a, e, f, g⟩ := s_wrong (G := G) (d := d + 2) q hx hc c0
    refine ⟨a, e, g, f.ru, f.2 31 (by omega), f.2 32 (by omega), ?_⟩
    rw [e_Md_wrong, if_pos (q.z.mpr rfl)] at e
    have e' : aSI (aSI σ 33 16 x) 33 17 (σ.1 33 21) = a := by
      have := Option.some.inj e
      exact congrArg Prod.snd this
    rw [← e', pSI_of (by decide), pSI_of (by decide)]
  rw [e_Md_part, s_good (d := d + 2) q, pCI, pB0, if_pos rfl, e20]
  by_cases h2 : tK T p = 2
  · have h4 : ¬ tEq T (tQ T p) - tQ T p ≤ 4 := fun h => hn.1 h2 ((tN_nat h2).2.mpr h)
    obtain ⟨a, e, qa, fa, a31, a32, _⟩ := wr 2 2 rfl (by decide) (by decide)
    obtain ⟨b, eb, rb⟩ := two 2 1 (a.1 33 23) a (by decide) qa fa a31 a32
    have e1 := r_put (G := G) (d := d + 2) (σ := a) (x := 1) (a31.trans r4) (show rd + (eL out).length < 1200 by omega)
    rw [if_pos h2, if_pos (by rw [h2]; rfl), e22, if_neg (fun h : Int32.ofNat (tEq T (tQ T p) - tQ T p) ≤ 4 => h4 ((pN_le (b := 4) (by omega) (by decide)).mp h)), e, pCV]
    refine ⟨b, ?_, rb⟩
    rw [e1, pCV] at eb ⊢
    rw [show (aSI (aSI a 46 (rd + (eL out).length) 1) 33 31 (Int32.ofNat (rd + (eL out).length + 1))).1 33 23 = a.1 33 23 from by rw [pSI_of (by decide), pSI_ne (by decide)]]
    exact eb
  · rw [if_neg h2, if_neg (fun h => h2 ((pEqL (c := 2) (n := 2) rfl (by decide) (by omega)).mp h))]
    by_cases h1 : tK T p = 1
    · obtain ⟨a, e, qa, fa, a31, a32, _⟩ := wr 3 3 rfl (by decide) (by decide)
      rw [if_pos h1, if_pos (by rw [h1]; rfl), s_known (d := d) q, pCI, e, pCV]
      obtain ⟨b, eb, rb⟩ := two 3 2 (kn T (tQ T p)) a (by decide) qa fa a31 a32
      by_cases k0 : kn T (tQ T p) < 0
      · have k0' : kn T (tQ T (0, p).2) < 0 := k0
        rw [if_pos k0']
        exact ⟨b, eb, rb⟩
      · have k0' : ¬ kn T (tQ T (0, p).2) < 0 := k0
        have k11 : ¬ kn T (tQ T (0, p).2) ≤ 11 := pNotLe.mpr (((nm_kn (s := (0, p))).2 (hn.2 h1)).resolve_left k0)
        rw [if_neg k0', if_neg k11]
        exact ⟨b, eb, rb⟩
    · obtain ⟨a, e, qa, fa, a31, a32, _⟩ := wr 1 1 rfl (by decide) (by decide)
      rw [if_neg h1, if_neg (fun h => h1 ((pEqL (c := 1) (n := 1) rfl (by decide) (by omega)).mp h)), e, pCV, s_good (d := d + 2) qa, pCI, pB0, if_neg (show ¬ ((1, p) : Nat × Nat).1 = 0 from (by decide : ¬ (1 : Nat) = 0))]
      exact ⟨a, rfl, fa, qa, (by decide : (1 : Nat) ≠ 0), pend.length, rd + (eL out).length, a32.trans r1, a31.trans r4, hw, by omega⟩
/-- behind a fault operands end -/
theorem r_18F {s : Nat × Nat} {x2 x4 : Int32} (q : RS σ T s) (h : s.1 ≠ 0) : Lq G (d + 4) M_86 (18, [some (.ref 33), none, some (.int x2), none, some (.int x4)], [], σ) = oV σ := by
  rw [c_Md_operand_18, s_good (d := d + 3) q, pCI, pB0, if_neg h, s_good (d := d + 3) q, pCI, pB0, if_neg h, if_pos rfl, c_Md_operand_4, if_pos rfl, r_partF q h, pCV]
theorem r_4F {s : Nat × Nat} {x2 : Int32} (q : RS σ T s) (h : s.1 ≠ 0) : Lq G (d + 4) M_86 (4, [some (.ref 33), none, some (.int x2), some (.int 1), none], [], σ) = oV σ := by
  rw [c_Md_operand_4, if_neg (by decide), s_good (d := d + 3) q, pCI, pB0, if_neg h, r_partF q h, pCV]
theorem r_4 {s : Nat × Nat} {x2 : Int32} (q : RS σ T s) (h : s.1 = 0) : Lq G (d + 4) M_86 (4, [some (.ref 33), none, some (.int x2), some (.int 1), none], [], σ) = Lq G (d + 4) M_86 (18, [some (.ref 33), none, some (.int x2), none, some (.int 0)], [], σ) := by
  rw [c_Md_operand_4, if_neg (by decide), s_good (d := d + 3) q, pCI, pB0, if_pos h]
/-- neither a not nor '(' -/
theorem r_toPart {x4 : Int32} (q : RS σ T (0, p)) (hp : ¬ tS T (0, p) 40 = true) (hw : ¬ (may = true ∧ tW T (0, p) 35 = true)) : Lq G (d + 4) M_86 (18, [some (.ref 33), none, some (.int (bI may)), none, some (.int x4)], [], σ) = aCV (Rn G (d + 4) 88 [.ref 33] σ) fun σ1 => oV σ1 := by
  rw [c_Md_operand_18, s_good (d := d + 3) q, pCI, pB0, if_pos rfl]
  by_cases hm : may = true
  · have n35 : ¬ kn T (tQ T (0, p).2) = 35 := fun e => hw ⟨hm, (s_knW q (x := 35) (by decide) rfl).mp e⟩
    rw [bI_t hm, if_neg (by decide), s_known (d := d + 1) q, pCI, if_neg n35, s_good (d := d + 3) q, pCI, pB0, if_pos rfl, s_isSignR (d := d + 3) q, pCI, bI_f hp, if_pos rfl, if_pos rfl, c_Md_operand_4, if_pos rfl]
  · rw [bI_f hm, if_pos rfl, s_good (d := d + 3) q, pCI, pB0, if_pos rfl, s_isSignR (d := d + 3) q, pCI, bI_f hp, if_pos rfl, if_pos rfl, c_Md_operand_4, if_pos rfl]
/-- '(' -/
theorem r_toOpen {x4 : Int32} (q : RS σ T (0, p)) (hp : tS T (0, p) 40 = true) : Lq G (d + 4) M_86 (18, [some (.ref 33), none, some (.int (bI may)), none, some (.int x4)], [], σ) = aCV (Rn G (d + 4) 87 [.ref 33, .int 12] σ) fun σ5 => aCV (Rn G (d + 4) 63 [.ref 33] σ5) fun σ6 => aCV (Rn G (d + 4) 84 [.ref 33] σ6) fun σ7 => Lq G (d + 4) M_86 (4, [some (.ref 33), none, some (.int 1), some (.int 1), none], [], σ7) := by
  have k3 : tK T p = 3 := (tS_iff.mp hp).1
  have n35 : ¬ kn T (tQ T (0, p).2) = 35 := fun e => by
    have := tW_k ((s_knW q (x := 35) (by decide) rfl).mp e)
    have : tK T p = 1 := this
    omega
  rw [c_Md_operand_18, s_good (d := d + 3) q, pCI, pB0, if_pos rfl]
  by_cases hm : may = true
  · rw [bI_t hm, if_neg (by decide), s_known (d := d + 1) q, pCI, if_neg n35, s_good (d := d + 3) q, pCI, pB0, if_pos rfl, s_isSignR (d := d + 3) q, pCI, bI_t hp, if_neg (by decide), if_neg (by decide)]
  · rw [bI_f hm, if_pos rfl, s_good (d := d + 3) q, pCI, pB0, if_pos rfl, s_isSignR (d := d + 3) q, pCI, bI_t hp, if_neg (by decide), if_neg (by decide)]
end PRStep
