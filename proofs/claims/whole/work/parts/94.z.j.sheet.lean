/-! ===== a sheet's begin ===== -/
section PSheetB
variable {G : Nat × (Nat → Int32)} {d : Nat} {σ : aH} {k : Nat}
theorem s_zeros (hk : k < 60) : ∃ b, Lq G d M_107 (39, [some (.ref 33), some (.int (Int32.ofNat k)), some (.int 0), none], [], σ) = Lq G d M_107 (39, [some (.ref 33), some (.int (Int32.ofNat k)), some (.int (Int32.ofNat 17)), none], [], b) ∧ pSame [40] σ b ∧ (∀ j, j < 17 → b.1 40 (17 * k + j) = 0) ∧ ∀ j, (j < 17 * k ∨ 17 * k + 17 ≤ j) → b.1 40 j = σ.1 40 j := by
  obtain ⟨b, ⟨h1, h2, h3⟩, e⟩ := pLoopR0 (G := G) (d := d) (M := M_107) (fun i s => (39, [some (.ref 33), some (.int (Int32.ofNat k)), some (.int (Int32.ofNat i)), none], [], s)) (fun i s => pSame [40] σ s ∧ (∀ j, j < i → s.1 40 (17 * k + j) = 0) ∧ ∀ j, (j < 17 * k ∨ 17 * k + 17 ≤ j) → s.1 40 j = σ.1 40 j) 17 σ ⟨pSame.rfl', fun j hj => absurd hj (Nat.not_lt_zero j), fun _ _ => rfl⟩ (by
    intro i s hi ⟨h1, h2, h3⟩
    refine ⟨aSI s 40 (17 * k + i) 0, ⟨h1.si (by decide), fun j hj => ?_, fun j hj => ?_⟩, ?_⟩
    · by_cases e : j = i
      · rw [e, pSI_at]
      · rw [pSI_of (by omega), h2 j (by omega)]
    · rw [pSI_of (by omega), h3 j hj]
    · rw [c_Md_readsSheet_39, if_neg (pGoL (c := 17) (n := 17) rfl hi (by decide)), pM17, pA, pIx (by omega) (by decide), pN_s])
  exact ⟨b, e, h1, h2, h3⟩
end PSheetB
