/-! ===== feed ===== -/
theorem pByte (y : Int32) : (y.toInt8.toInt32) &&& 255 = y &&& 255 := by
  apply Int32.toBitVec_inj.mp
  rw [Int32.toBitVec_and, Int32.toBitVec_and, Int8.toBitVec_toInt32, Int32.toBitVec_toInt8]
  apply BitVec.eq_of_getLsbD_eq
  intro i hi
  rw [BitVec.getLsbD_and, BitVec.getLsbD_and]
  by_cases h8 : i < 8
  · rw [BitVec.getLsbD_signExtend, BitVec.getLsbD_signExtend]
    simp [h8, hi]
  · have e : (Int32.toBitVec 255).getLsbD i = false := by
      show (255#32).getLsbD i = false
      rw [BitVec.getLsbD_ofNat]
      simp
      intro _
      exact Nat.testBit_lt_two_pow (Nat.lt_of_lt_of_le (by decide : 255 < 2 ^ 8) (Nat.pow_le_pow_right (by decide) (by omega)))
    rw [e, Bool.and_false, Bool.and_false]
theorem pNarByte (y : Int32) : vp_nar .byte y.toInt8.toInt32 &&& 255 = y &&& 255 := by
  have e : vp_nar .byte y.toInt8.toInt32 = (y.toInt8.toInt32).toInt8.toInt32 := rfl
  rw [e, pByte, pByte]
section PFeed
variable {G : Nat × (Nat → Int32)} {d : Nat} {σ : aH} {m : St}
/-- the shifts: 24, 16, 8, 0; and the bytes -/
def pSh : Nat → Int32
  | 0 => 24
  | j + 1 => pSh j + (-8)
def bOf (x : Int32) (j : Nat) : Int32 := (x >>> (pSh j &&& 31)) &&& 255
theorem pSh_ge {j : Nat} (h : j < 4) : ¬ pSh j < 0 := by
  rcases (show j = 0 ∨ j = 1 ∨ j = 2 ∨ j = 3 by omega) with rfl | rfl | rfl | rfl <;> decide
theorem pSh_4 : pSh 4 < 0 := by decide
theorem s_append {n : Nat} (hn : n + 4 ≤ 700) (e1 : σ.1 1 1 = Int32.ofNat n) {x : Int32} : ∃ σ', Rn G (d + 1) 1 [.ref 1, .int x] σ = oV σ' ∧ pSame [1, 2] σ σ' ∧ σ'.1 1 1 = Int32.ofNat (n + 4) ∧ (∀ k, k ≠ 1 → σ'.1 1 k = σ.1 1 k) ∧ (∀ i, i < n → σ'.1 2 i = σ.1 2 i) ∧ ∀ i, i < 4 → σ'.1 2 (n + i) &&& 255 = bOf x i := by
  rw [e_Rh_Tape_append]
  obtain ⟨b, ⟨h1, h2, h3, h4, h5⟩, e⟩ := pLoopR0 (G := G) (d := d) (M := M_1) (fun j s => (3, [some (.ref 1), some (.int x), some (.int (pSh j))], [], s)) (fun j s => pSame [1, 2] σ s ∧ s.1 1 1 = Int32.ofNat (n + j) ∧ (∀ k, k ≠ 1 → s.1 1 k = σ.1 1 k) ∧ (∀ i, i < n → s.1 2 i = σ.1 2 i) ∧ ∀ i, i < j → s.1 2 (n + i) &&& 255 = bOf x i) 4 σ ⟨pSame.rfl', e1, fun _ _ => rfl, fun _ _ => rfl, fun i hi => absurd hi (Nat.not_lt_zero i)⟩ (by
    intro j s hj ⟨h1, h2, h3, h4, h5⟩
    refine ⟨aSI (aSI s 2 (n + j) (vp_nar .byte (x >>> (pSh j &&& 31)).toInt8.toInt32)) 1 1 (Int32.ofNat (n + j + 1)), ⟨(h1.si (by decide)).si (by decide), pSI_at, ?_, ?_, ?_⟩, ?_⟩
    · intro k hk
      rw [pSI_of hk, pSI_ne (by decide)]
      exact h3 k hk
    · intro i hi
      rw [pSI_ne (by decide), pSI_of (by omega)]
      exact h4 i hi
    · intro i hi
      rw [pSI_ne (by decide)]
      by_cases h : i = j
      · subst h
        rw [pSI_at, pNarByte]
        rfl
      · rw [pSI_of (by omega)]
        exact h5 i (by omega)
    · rw [c_Rh_Tape_append_3, if_neg (pSh_ge hj), h2, if_neg (pN_n0 (by omega)), if_neg (pGoL (c := 700) (n := 700) rfl (by omega) (by decide)), pIx (by omega) (by decide), pN_s]
      rfl)
  have e' : Lq G d M_1 (3, [some (.ref 1), some (.int x), some (.int 24)], [], σ) = Lq G d M_1 (3, [some (.ref 1), some (.int x), some (.int (pSh 4))], [], b) := e
  exact ⟨b, by rw [e', c_Rh_Tape_append_3, if_pos pSh_4], h1, h2, h3, h4, h5⟩
theorem s_lays0 {n : Nat} (hn : n + 4 ≤ 700) (e1 : σ.1 33 15 = Int32.ofNat n) {x : Int32} : ∃ σ', Rn G (d + 1) 3 [.ref 33, .int x] σ = oV σ' ∧ pSame [33, 41] σ σ' ∧ σ'.1 33 15 = Int32.ofNat (n + 4) ∧ (∀ k, k ≠ 15 → σ'.1 33 k = σ.1 33 k) ∧ (∀ i, i < n → σ'.1 41 i = σ.1 41 i) ∧ ∀ i, i < 4 → σ'.1 41 (n + i) = bOf x i := by
  rw [e_Md_lays_0]
  obtain ⟨b, ⟨h1, h2, h3, h4, h5⟩, e⟩ := pLoopR0 (G := G) (d := d) (M := M_3) (fun j s => (3, [some (.ref 33), some (.int x), some (.int (pSh j))], [], s)) (fun j s => pSame [33, 41] σ s ∧ s.1 33 15 = Int32.ofNat (n + j) ∧ (∀ k, k ≠ 15 → s.1 33 k = σ.1 33 k) ∧ (∀ i, i < n → s.1 41 i = σ.1 41 i) ∧ ∀ i, i < j → s.1 41 (n + i) = bOf x i) 4 σ ⟨pSame.rfl', e1, fun _ _ => rfl, fun _ _ => rfl, fun i hi => absurd hi (Nat.not_lt_zero i)⟩ (by
    intro j s hj ⟨h1, h2, h3, h4, h5⟩
    refine ⟨aSI (aSI s 41 (n + j) (bOf x j)) 33 15 (Int32.ofNat (n + j + 1)), ⟨(h1.si (by decide)).si (by decide), pSI_at, ?_, ?_, ?_⟩, ?_⟩
    · intro k hk
      rw [pSI_of hk, pSI_ne (by decide)]
      exact h3 k hk
    · intro i hi
      rw [pSI_ne (by decide), pSI_of (by omega)]
      exact h4 i hi
    · intro i hi
      rw [pSI_ne (by decide)]
      by_cases h : i = j
      · subst h
        rw [pSI_at]
      · rw [pSI_of (by omega)]
        exact h5 i (by omega)
    · rw [c_Md_lays_0_3, if_neg (pSh_ge hj), h2, pIx (by omega) (by decide), pN_s]
      rfl)
  have e' : Lq G d M_3 (3, [some (.ref 33), some (.int x), some (.int 24)], [], σ) = Lq G d M_3 (3, [some (.ref 33), some (.int x), some (.int (pSh 4))], [], b) := e
  exact ⟨b, by rw [e', c_Md_lays_0_3, if_pos pSh_4], h1, h2, h3, h4, h5⟩
end PFeed
