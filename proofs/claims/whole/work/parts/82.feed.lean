/-! ===== feed ===== -/
theorem pByte (y : Int32) : (y.toInt8.toInt32) &&& 255 = y &&& 255 := by
  apply Int32.toBitVec_inj.mp
  rw [Int32.toBitVec_and, Int32.toBitVec_and, Int8.toBitVec_toInt32, Int32.toBitVec_toInt8]
  apply BitVec.eq_of_getLsbD_eq
  intro i hi
  rw [BitVec.getLsbD_and, BitVec.getLsbD_and]
  by_cases h8 : i < 8
  · rw [BitVec.getLsbD_signExtend, BitVec.getLsbD_signExtend]
    simp [h8, hi]
  · have e : (Int32.toBitVec 255).getLsbD i = false := by
      show (255#32).getLsbD i = false
      rw [BitVec.getLsbD_ofNat]
      simp
      intro _
      exact Nat.testBit_lt_two_pow (Nat.lt_of_lt_of_le (by decide : 255 < 2 ^ 8) (Nat.pow_le_pow_right (by decide) (by omega)))
    rw [e, Bool.and_false, Bool.and_false]
theorem pNarByte (y : Int32) : vp_nar .byte y.toInt8.toInt32 &&& 255 = y &&& 255 := by
  have e : vp_nar .byte y.toInt8.toInt32 = (y.toInt8.toInt32).toInt8.toInt32 := rfl
  rw [e, pByte, pByte]
section PFeed
variable {G : Nat × (Nat → Int32)} {d : Nat} {σ : aH} {m : St}
/-- the shifts: 24, 16, 8, 0; and the bytes -/
def pSh : Nat → Int32
  | 0 => 24
  | j + 1 => pSh j + (-8)
def bOf (x : Int32) (j : Nat) : Int32 := (x >>> (pSh j &&& 31)) &&& 255
theorem pSh_ge {j : Nat} (h : j < 4) : ¬ pSh j < 0 := by
  rcases (show j = 0 ∨ j = 1 ∨ j = 2 ∨ j = 3 by omega) with rfl | rfl | rfl | rfl <;> decide
theorem pSh_4 : pSh 4 < 0 := by decide
theorem s_append {n : Nat} (hn : n + 4 ≤ 700) (e1 : σ.1 1 1 = Int32.ofNat n) {x : Int32} : ∃ σ', Rn G (d + 1) 1 [.ref 1, .int x] σ = oV σ' ∧ pSame [1, 2] σ σ' ∧ σ'.1 1 1 = Int32.ofNat (n + 4) ∧ (∀ k, k ≠ 1 → σ'.1 1 k = σ.1 1 k) ∧ (∀ i, i < n → σ'.1 2 i = σ.1 2 i) ∧ ∀ i, i < 4 → σ'.1 2 (n + i) &&& 255 = bOf x i := by
  rw [e_Rh_Tape_append]
  obtain ⟨b, ⟨h1, h2, h3, h4, h5⟩, e⟩ := pLoopR0 (G := G) (d := d) (M := M_1) (fun j s => (3, [some (.ref 1), some (.int x), some (.int (pSh j))], [], s)) (fun j s => pSame [1, 2] σ s ∧ s.1 1 1 = Int32.ofNat (n + j) ∧ (∀ k, k ≠ 1 → s.1 1 k = σ.1 1 k) ∧ (∀ i, i < n → s.1 2 i = σ.1 2 i) ∧ ∀ i, i < j → s.1 2 (n + i) &&& 255 = bOf x i) 4 σ ⟨pSame.rfl', e1, fun _ _ => rfl, fun _ _ => rfl, fun i hi => absurd hi (Nat.not_lt_zero i)⟩ (by
    intro j s hj ⟨h1, h2, h3, h4, h5⟩
    refine ⟨aSI (aSI s 2 (n + j) (vp_nar .byte (x >>> (pSh j &&& 31)).toInt8.toInt32)) 1 1 (Int32.ofNat (n + j + 1)), ⟨(h1.si (by decide)).si (by decide), pSI_at, ?_, ?_, ?_⟩, ?_⟩
    · intro k hk
      rw [pSI_of hk, pSI_ne (by decide)]
      exact h3 k hk
    · intro i hi
      rw [pSI_ne (by decide), pSI_of (by omega)]
      exact h4 i hi
    · intro i hi
      rw [pSI_ne (by decide)]
      by_cases h : i = j
      · subst h
        rw [pSI_at, pNarByte]
        rfl
      · rw [pSI_of (by omega)]
        exact h5 i (by omega)
    · rw [c_Rh_Tape_append_3, if_neg (pSh_ge hj), h2, if_neg (pN_n0 (by omega)), if_neg (pGoL (c := 700) (n := 700) rfl (by omega) (by decide)), pIx (by omega) (by decide), pN_s]
      rfl)
  have e' : Lq G d M_1 (3, [some (.ref 1), some (.int x), some (.int 24)], [], σ) = Lq G d M_1 (3, [some (.ref 1), some (.int x), some (.int (pSh 4))], [], b) := e
  exact ⟨b, by rw [e', c_Rh_Tape_append_3, if_pos pSh_4], h1, h2, h3, h4, h5⟩
theorem s_lays0 {n : Nat} (hn : n + 4 ≤ 700) (e1 : σ.1 33 15 = Int32.ofNat n) {x : Int32} : ∃ σ', Rn G (d + 1) 3 [.ref 33, .int x] σ = oV σ' ∧ pSame [33, 41] σ σ' ∧ σ'.1 33 15 = Int32.ofNat (n + 4) ∧ (∀ k, k ≠ 15 → σ'.1 33 k = σ.1 33 k) ∧ (∀ i, i < n → σ'.1 41 i = σ.1 41 i) ∧ ∀ i, i < 4 → σ'.1 41 (n + i) = bOf x i := by
  rw [e_Md_lays_0]
  obtain ⟨b, ⟨h1, h2, h3, h4, h5⟩, e⟩ := pLoopR0 (G := G) (d := d) (M := M_3) (fun j s => (3, [some (.ref 33), some (.int x), some (.int (pSh j))], [], s)) (fun j s => pSame [33, 41] σ s ∧ s.1 33 15 = Int32.ofNat (n + j) ∧ (∀ k, k ≠ 15 → s.1 33 k = σ.1 33 k) ∧ (∀ i, i < n → s.1 41 i = σ.1 41 i) ∧ ∀ i, i < j → s.1 41 (n + i) = bOf x i) 4 σ ⟨pSame.rfl', e1, fun _ _ => rfl, fun _ _ => rfl, fun i hi => absurd hi (Nat.not_lt_zero i)⟩ (by
    intro j s hj ⟨h1, h2, h3, h4, h5⟩
    refine ⟨aSI (aSI s 41 (n + j) (bOf x j)) 33 15 (Int32.ofNat (n + j + 1)), ⟨(h1.si (by decide)).si (by decide), pSI_at, ?_, ?_, ?_⟩, ?_⟩
    · intro k hk
      rw [pSI_of hk, pSI_ne (by decide)]
      exact h3 k hk
    · intro i hi
      rw [pSI_ne (by decide), pSI_of (by omega)]
      exact h4 i hi
    · intro i hi
      rw [pSI_ne (by decide)]
      by_cases h : i = j
      · subst h
        rw [pSI_at]
      · rw [pSI_of (by omega)]
        exact h5 i (by omega)
    · rw [c_Md_lays_0_3, if_neg (pSh_ge hj), h2, pIx (by omega) (by decide), pN_s]
      rfl)
  have e' : Lq G d M_3 (3, [some (.ref 33), some (.int x), some (.int 24)], [], σ) = Lq G d M_3 (3, [some (.ref 33), some (.int x), some (.int (pSh 4))], [], b) := e
  exact ⟨b, by rw [e', c_Md_lays_0_3, if_pos pSh_4], h1, h2, h3, h4, h5⟩
def bExt (B : Nat → Int32) (n : Nat) (x : Int32) : Nat → Int32 := fun i => if i < n then B i else bOf x (i - n)
theorem s_appendB {n : Nat} {B : Nat → Int32} (hn : n + 4 ≤ 700) (e1 : σ.1 1 1 = Int32.ofNat n) (hB : ∀ i, i < n → σ.1 2 i &&& 255 = B i) {x : Int32} : ∃ σ', Rn G (d + 1) 1 [.ref 1, .int x] σ = oV σ' ∧ pSame [1, 2] σ σ' ∧ σ'.1 1 1 = Int32.ofNat (n + 4) ∧ ∀ i, i < n + 4 → σ'.1 2 i &&& 255 = bExt B n x i := by
  obtain ⟨b, r, h1, h2, h3, h4, h5⟩ := s_append (G := G) (d := d) hn e1 (x := x)
  refine ⟨b, r, h1, h2, fun i hi => ?_⟩
  unfold bExt
  by_cases h : i < n
  · rw [if_pos h, h4 i h, hB i h]
  · have q := h5 (i - n) (by omega)
    rw [show n + (i - n) = i by omega] at q
    rw [if_neg h, q]
theorem s_laysB {n : Nat} {B : Nat → Int32} (hn : n + 4 ≤ 700) (e1 : σ.1 33 15 = Int32.ofNat n) (hB : ∀ i, i < n → σ.1 41 i = B i) {x : Int32} : ∃ σ', Rn G (d + 1) 3 [.ref 33, .int x] σ = oV σ' ∧ pSame [33, 41] σ σ' ∧ σ'.1 33 15 = Int32.ofNat (n + 4) ∧ (∀ k, k ≠ 15 → σ'.1 33 k = σ.1 33 k) ∧ ∀ i, i < n + 4 → σ'.1 41 i = bExt B n x i := by
  obtain ⟨b, r, h1, h2, h3, h4, h5⟩ := s_lays0 (G := G) (d := d) hn e1 (x := x)
  refine ⟨b, r, h1, h2, h3, fun i hi => ?_⟩
  unfold bExt
  by_cases h : i < n
  · rw [if_pos h, h4 i h, hB i h]
  · have q := h5 (i - n) (by omega)
    rw [show n + (i - n) = i by omega] at q
    rw [if_neg h, q]
theorem k_feed (ho : okAll m) (x1 x2 x3 x4 x5 : Int32) : ∃ m', AskD G 0 2 [.int x1, .int x2, .int x3, .int x4, .int x5] m m' := by
  have ht := ho.2.2.2
  by_cases h : m.2.2.2.1 + 20 ≤ 700
  · refine ⟨(m.1, m.2.1, m.2.2.1, m.2.2.2.1 + 4 + 4 + 4 + 4 + 4, bExt (bExt (bExt (bExt (bExt m.2.2.2.2.1 m.2.2.2.1 x1) (m.2.2.2.1 + 4) x2) (m.2.2.2.1 + 4 + 4) x3) (m.2.2.2.1 + 4 + 4 + 4) x4) (m.2.2.2.1 + 4 + 4 + 4 + 4) x5, m.2.2.2.2.2), ⟨ho.1, ho.2.1, ho.2.2.1, by show _ + 4 + 4 + 4 + 4 + 4 ≤ 700; omega⟩, Int32.ofNat (m.2.2.2.1 + 4 + 4 + 4 + 4 + 4), fun σ a b => ?_, fun σ a b => ?_⟩
    · obtain ⟨q1, q2, q3, q4, q5, q6, q7⟩ := a
      obtain ⟨σ1, r1, f1, s1, t1⟩ := s_appendB (G := G) (d := 58) (x := x1) (by omega) q4 q5
      obtain ⟨σ2, r2, f2, s2, t2⟩ := s_appendB (G := G) (d := 58) (x := x2) (by omega) s1 t1
      obtain ⟨σ3, r3, f3, s3, t3⟩ := s_appendB (G := G) (d := 58) (x := x3) (by omega) s2 t2
      obtain ⟨σ4, r4, f4, s4, t4⟩ := s_appendB (G := G) (d := 58) (x := x4) (by omega) s3 t3
      obtain ⟨σ5, r5, f5, s5, t5⟩ := s_appendB (G := G) (d := 58) (x := x5) (by omega) s4 t4
      have f := (((f1.trans f2).trans f3).trans f4).trans f5
      refine ⟨σ5, ?_, ⟨q1.ps f (by decide) (by decide) (by decide), q2.ps f (by decide) (by decide), ?_, s5, t5, ?_, ?_⟩, b.ps f (by decide)⟩
      · rw [e_Rh_feed, q4, pA20, if_pos (show Int32.ofNat (m.2.2.2.1 + 20) ≤ 700 from pLe' (c := 700) (b := 700) rfl h (by decide)), r1, pCV, r2, pCV, r3, pCV, r4, pCV, r5, pCV, s5]
      · show cIm _ m.2.2.1
        cases hm : m.2.2.1 with
        | none =>
          rw [hm] at q3
          exact (congrFun (f.at (by decide)) 15).trans q3
        | some i =>
          rw [hm] at q3
          exact ⟨(congrFun (f.at (by decide)) 15).trans q3.1, q3.2.ps f (by decide) (by decide)⟩
      · rw [f.at (by decide)]; exact q6
      · rw [f.at (by decide)]; exact q7
    · obtain ⟨q1, ⟨q2, q2'⟩, q3, q4, q5, q6, q7⟩ := b
      have q4' : (aSI σ 33 0 0).1 33 15 = Int32.ofNat m.2.2.2.1 := (pSI_of (by decide)).trans q4
      obtain ⟨σ1, r1, f1, s1, u1, t1⟩ := s_laysB (G := G) (d := 58) (B := m.2.2.2.2.1) (x := x1) (by omega) q4' (fun i hi => by rw [pSI_ne (by decide)]; exact q5 i hi)
      obtain ⟨σ2, r2, f2, s2, u2, t2⟩ := s_laysB (G := G) (d := 58) (x := x2) (by omega) s1 t1
      obtain ⟨σ3, r3, f3, s3, u3, t3⟩ := s_laysB (G := G) (d := 58) (x := x3) (by omega) s2 t2
      obtain ⟨σ4, r4, f4, s4, u4, t4⟩ := s_laysB (G := G) (d := 58) (x := x4) (by omega) s3 t3
      obtain ⟨σ5, r5, f5, s5, u5, t5⟩ := s_laysB (G := G) (d := 58) (x := x5) (by omega) s4 t4
      have f0 : pSame [33, 41] σ (aSI σ 33 0 0) := pSame.rfl'.si (by decide)
      have f := ((((f0.trans f1).trans f2).trans f3).trans f4).trans f5
      have u : ∀ k, k ≠ 0 → k ≠ 15 → σ5.1 33 k = σ.1 33 k := fun k h0 h15 => by rw [u5 k h15, u4 k h15, u3 k h15, u2 k h15, u1 k h15, pSI_of h0]
      refine ⟨σ5, ?_, a.ps f (by decide), q1.same (fun k hk => u _ (by omega) (by omega)) (f.at (by decide)) (f.at (by decide)) (f.at (by decide)) (f.at (by decide)) (f.at (by decide)) (f.at (by decide)), ⟨q2.same (f.at (by decide)) (f.at (by decide)) (f.at (by decide)), (u 12 (by decide) (by decide)).trans q2'⟩, ?_, s5, t5, (u 17 (by decide) (by decide)).trans q6, ?_⟩
      · rw [e_Md_feed, q4, pA20, if_pos (show Int32.ofNat (m.2.2.2.1 + 20) ≤ 700 from pLe' (c := 700) (b := 700) rfl h (by decide)), r1, pCV, r2, pCV, r3, pCV, r4, pCV, r5, pCV, s5]
      · show rIm _ m.2.2.1
        cases hm : m.2.2.1 with
        | none =>
          rw [hm] at q3
          exact (u 54 (by decide) (by decide)).trans q3
        | some i =>
          rw [hm] at q3
          exact ⟨(u 54 (by decide) (by decide)).trans q3.1, q3.2.same (f.at (by decide)) (f.at (by decide)) (f.at (by decide))⟩
      · rw [f.at (by decide)]; exact q7
  · refine ⟨m, ho, -1, fun σ a b => ⟨σ, ?_, a, b⟩, fun σ a b => ⟨aSI σ 33 0 0, ?_, a.k (K.rfl'.s33 (by decide)), b.k (K.rfl'.s33 (by decide))⟩⟩
    · rw [e_Rh_feed, a.2.2.2.1, pA20, if_neg (fun q : Int32.ofNat (m.2.2.2.1 + 20) ≤ 700 => h ((pN_le (b := 700) (by omega) (by decide)).mp q))]
    · rw [e_Md_feed, b.2.2.2.1, pA20, if_neg (fun q : Int32.ofNat (m.2.2.2.1 + 20) ≤ 700 => h ((pN_le (b := 700) (by omega) (by decide)).mp q))]
end PFeed
