/-! ===== the calls that the law makes without a wrapper (by wip/gen/emit_end.py) ===== -/
/-- class and reference give the same number -/
def AskD (G : Nat × (Nat → Int32)) (c r : Nat) (as : List Value) (m m' : St) : Prop := okAll m' ∧ ∃ v, (∀ σ, cAll σ m → rAll σ m → ∃ σ', Rn G 60 c (.ref 0 :: as) σ = oI v σ' ∧ cAll σ' m' ∧ rAll σ' m) ∧ ∀ σ, cAll σ m' → rAll σ m → ∃ σ', Rn G 60 r (.ref 33 :: as) σ = oI v σ' ∧ cAll σ' m' ∧ rAll σ' m'
/-- they give none -/
def AskV (G : Nat × (Nat → Int32)) (c r : Nat) (m m' : St) : Prop := okAll m' ∧ (∀ σ, cAll σ m → rAll σ m → ∃ σ', Rn G 60 c [.ref 0] σ = oV σ' ∧ cAll σ' m' ∧ rAll σ' m) ∧ ∀ σ, cAll σ m' → rAll σ m → ∃ σ', Rn G 60 r [.ref 33] σ = oV σ' ∧ cAll σ' m' ∧ rAll σ' m'
section PDir
variable {G : Nat × (Nat → Int32)} {i : Nat} {σ : aH} {m m' : St}
theorem t_0 (hi : i + 6 ≤ G.1) (hG : G.1 ≤ 3072) (I : Iv σ m) (A : AskD G 0 2 [.int (G.2 (i + 1)), .int (G.2 (i + 2)), .int (G.2 (i + 3)), .int (G.2 (i + 4)), .int (G.2 (i + 5))] m m') : ∃ σ', LT (cdL_h ++ (cdL_0 ++ cdL_e)) G 188 1 (188, [some (.ref 130), some (.ref 0), some (.ref 33), some (.ref 63), some (.int (Int32.ofNat i)), none, none], [], σ) = some (.inl (lwSt (i + 6) σ')) ∧ Iv σ' m' := by
  have i1 : ∀ {ρ : Type} (f : Nat → Option ρ), aIx (Int32.ofNat i + 1) G.1 f = f (i + 1) := fun f => pIxL (Int32.ofNat_add i 1).symm (by omega) (by omega) f
  have i2 : ∀ {ρ : Type} (f : Nat → Option ρ), aIx (Int32.ofNat i + 2) G.1 f = f (i + 2) := fun f => pIxL (Int32.ofNat_add i 2).symm (by omega) (by omega) f
  have i3 : ∀ {ρ : Type} (f : Nat → Option ρ), aIx (Int32.ofNat i + 3) G.1 f = f (i + 3) := fun f => pIxL (Int32.ofNat_add i 3).symm (by omega) (by omega) f
  have i4 : ∀ {ρ : Type} (f : Nat → Option ρ), aIx (Int32.ofNat i + 4) G.1 f = f (i + 4) := fun f => pIxL (Int32.ofNat_add i 4).symm (by omega) (by omega) f
  have i5 : ∀ {ρ : Type} (f : Nat → Option ρ), aIx (Int32.ofNat i + 5) G.1 f = f (i + 5) := fun f => pIxL (Int32.ofNat_add i 5).symm (by omega) (by omega) f
  obtain ⟨ho', v, h1, h2⟩ := A
  obtain ⟨σ1, r1, c1, d1⟩ := h1 σ I.2.1 I.2.2
  obtain ⟨σ2, r2, c2, d2⟩ := h2 σ1 c1 d1
  refine ⟨σ2, ?_, ho', c2, d2⟩
  rw [lw_0]
  simp only [i1, i2, i3, i4, i5]
  rw [r1, pCI, r2, pCI, if_pos rfl, pA6]
  rfl
theorem t_3 (hi : i + 6 ≤ G.1) (hG : G.1 ≤ 3072) (I : Iv σ m) (A : AskD G 110 111 [] m m') : ∃ σ', LT (cdL_h ++ (cdL_3 ++ cdL_e)) G 188 1 (373, [some (.ref 130), some (.ref 0), some (.ref 33), some (.ref 63), some (.int (Int32.ofNat i)), none, none], [], σ) = some (.inl (lwSt (i + 6) σ')) ∧ Iv σ' m' := by

  obtain ⟨ho', v, h1, h2⟩ := A
  obtain ⟨σ1, r1, c1, d1⟩ := h1 σ I.2.1 I.2.2
  obtain ⟨σ2, r2, c2, d2⟩ := h2 σ1 c1 d1
  refine ⟨σ2, ?_, ho', c2, d2⟩
  rw [lw_3]
  skip
  rw [r1, pCI, r2, pCI, if_pos rfl, pA6]
  rfl
theorem t_25 (hi : i + 6 ≤ G.1) (hG : G.1 ≤ 3072) (I : Iv σ m) (A : AskD G 279 280 [] m m') : ∃ σ', LT (cdL_h ++ (cdL_25 ++ cdL_e)) G 188 1 (1840, [some (.ref 130), some (.ref 0), some (.ref 33), some (.ref 63), some (.int (Int32.ofNat i)), none, none], [], σ) = some (.inl (lwSt (i + 6) σ')) ∧ Iv σ' m' := by

  obtain ⟨ho', v, h1, h2⟩ := A
  obtain ⟨σ1, r1, c1, d1⟩ := h1 σ I.2.1 I.2.2
  obtain ⟨σ2, r2, c2, d2⟩ := h2 σ1 c1 d1
  refine ⟨σ2, ?_, ho', c2, d2⟩
  rw [lw_25]
  skip
  rw [r1, pCI, r2, pCI, if_pos rfl, pA6]
  rfl
theorem t_32 (hi : i + 6 ≤ G.1) (hG : G.1 ≤ 3072) (I : Iv σ m) (A : AskD G 310 311 [] m m') : ∃ σ', LT (cdL_h ++ (cdL_32 ++ cdL_e)) G 188 1 (2264, [some (.ref 130), some (.ref 0), some (.ref 33), some (.ref 63), some (.int (Int32.ofNat i)), none, none], [], σ) = some (.inl (lwSt (i + 6) σ')) ∧ Iv σ' m' := by

  obtain ⟨ho', v, h1, h2⟩ := A
  obtain ⟨σ1, r1, c1, d1⟩ := h1 σ I.2.1 I.2.2
  obtain ⟨σ2, r2, c2, d2⟩ := h2 σ1 c1 d1
  refine ⟨σ2, ?_, ho', c2, d2⟩
  rw [lw_32]
  skip
  rw [r1, pCI, r2, pCI, if_pos rfl, pA6]
  rfl
theorem t_31 (hi : i + 6 ≤ G.1) (hG : G.1 ≤ 3072) (I : Iv σ m) (A : AskV G 307 309 m m') : ∃ σ', LT (cdL_h ++ (cdL_31 ++ cdL_e)) G 188 1 (2253, [some (.ref 130), some (.ref 0), some (.ref 33), some (.ref 63), some (.int (Int32.ofNat i)), none, none], [], σ) = some (.inl (lwSt (i + 6) σ')) ∧ Iv σ' m' := by
  obtain ⟨ho', h1, h2⟩ := A
  obtain ⟨σ1, r1, c1, d1⟩ := h1 σ I.2.1 I.2.2
  obtain ⟨σ2, r2, c2, d2⟩ := h2 σ1 c1 d1
  refine ⟨σ2, ?_, ho', c2, d2⟩
  rw [lw_31, r1, pCV, r2, pCV, pA6]
  rfl
end PDir
