/-! ===== all clauses of a house, on both sides ===== -/
section PHLoop
variable {G : Nat × (Nat → Int32)} {d d2 : Nat} {T : Tx}
theorem c6_bad {s : Nat × Nat} {i : Nat} {σ : aH} (q : CS σ T s) (h : s.1 ≠ 0) : Lq G d M_22 (6, [some (.ref 1), some (.ref 7), some (.ref 11), some (.int (Int32.ofNat i)), none], [], σ) = oV σ := by
  rw [c_Rh_HouseReader_readHouse_6]
  by_cases h7 : (700 : Int32) ≤ Int32.ofNat i
  · rw [if_pos h7]
  · rw [if_neg h7, if_neg (fun e => h (q.z.mp e))]
theorem c6_end {p i : Nat} {σ : aH} (q : CS σ T (0, p)) (h : tK T p = 0) : Lq G d M_22 (6, [some (.ref 1), some (.ref 7), some (.ref 11), some (.int (Int32.ofNat i)), none], [], σ) = oV σ := by
  have e4 : σ.1 1 4 = Int32.ofNat (tK T p) := q.2.2.2.2.2.1
  rw [c_Rh_HouseReader_readHouse_6]
  by_cases h7 : (700 : Int32) ≤ Int32.ofNat i
  · rw [if_pos h7]
  · rw [if_neg h7, if_pos (q.z.mpr rfl), if_pos (by rw [e4, h]; rfl)]
def hlO (G : Nat × (Nat → Int32)) (d d2 : Nat) (T : Tx) (p : Nat) (h : Ho) (s' : Nat × Nat) (h' : Ho) : Prop := (∀ i σ, i ≤ p → CS σ T (0, p) → cHb σ h → ∃ b, Lq G (d + 10) M_22 (6, [some (.ref 1), some (.ref 7), some (.ref 11), some (.int (Int32.ofNat i)), none], [], σ) = oV b ∧ pSame sp7 σ b ∧ CS b T s' ∧ (s'.1 = 0 → cHb b h')) ∧ (∀ σ, RS σ T (0, p) → rHb σ h → ∃ b, Lq G (d2 + 8) M_60 (44, [some (.ref 33), none, none], [], σ) = Lq G (d2 + 8) M_60 (44, [some (.ref 33), none, none], [], b) ∧ rHF σ b ∧ RS b T s' ∧ (s'.1 = 0 → rHb b h')) ∧ s'.2 ≤ T.1 ∧ (s'.1 = 0 → tK T s'.2 = 0 ∧ okH h' s'.2)
theorem house_loop (hT : T.1 ≤ 700) : ∀ (n p : Nat) (h : Ho), T.1 - p < n → p ≤ T.1 → okH h p → ∃ s' h', hlO G d d2 T p h s' h' := by
  intro n
  induction n with
  | zero => intro p _ h; exact absurd h (Nat.not_lt_zero _)
  | succ n ih =>
    intro p h hn hp ok
    by_cases k0 : tK T p = 0
    · refine ⟨(0, p), h, fun i σ hi q qh => ⟨σ, c6_end q k0, pSame.rfl', q, fun _ => qh⟩, fun σ q qh => ⟨σ, rfl, rHF.rfl', q, fun _ => qh⟩, hp, fun _ => ⟨k0, ok⟩⟩
    · have lt : p < T.1 := by
        have a := tQ_le hp
        have : ¬ T.1 ≤ tQ T p := fun e => k0 (tK0.mpr e)
        omega
      obtain ⟨s1, h1, cc, rr, gg⟩ := clause (G := G) (d := d) (d2 := d2) hT hp k0 ok
      have r1 : ∀ σ, RS σ T (0, p) → rHb σ h → ∃ b, Lq G (d2 + 8) M_60 (44, [some (.ref 33), none, none], [], σ) = Lq G (d2 + 8) M_60 (44, [some (.ref 33), none, none], [], b) ∧ rHF σ b ∧ RS b T s1 ∧ (s1.1 = 0 → rHb b h1) := by
        intro σ q qh
        obtain ⟨b, e, f, g⟩ := rr σ q qh
        have k5 : tK T p < 5 := tKq_lt T (tQ T p)
        have e20 : σ.1 33 20 = Int32.ofNat (tK T p) := q.2.2.2.2.2.2.1
        refine ⟨b, ?_, f, g⟩
        rw [c_Md_house_44, s_good (d := d2 + 7) q, pCI, pB0, if_pos rfl, e20, if_neg (fun e => k0 ((pEqL (c := 0) (n := 0) rfl (by decide) (by omega)).mp e)), e, pCV]
      by_cases hz : s1.1 = 0
      · obtain ⟨g1, g2, g3⟩ := gg hz
        obtain ⟨s2, h2, c2, r2, g4, g5⟩ := ih s1.2 h1 (by omega) g3 g1
        have es : s1 = (0, s1.2) := by
          rw [← hz]
        refine ⟨s2, h2, fun i σ hi q qh => ?_, fun σ q qh => ?_, g4, g5⟩
        · obtain ⟨a, e, f, g, gh⟩ := cc i σ (by omega) q qh
          rw [es] at g
          obtain ⟨b, e2, f2, g'⟩ := c2 (i + 1) a (by omega) g (gh hz)
          exact ⟨b, e.trans e2, f.trans f2, g'⟩
        · obtain ⟨a, e, f, g, gh⟩ := r1 σ q qh
          rw [es] at g
          obtain ⟨b, e2, f2, g'⟩ := r2 a g (gh hz)
          exact ⟨b, e.trans e2, f.trans f2, g'⟩
      · by_cases ex : ∃ (σ : aH), CS σ T s1
        · obtain ⟨σ0, q0⟩ := ex
          refine ⟨s1, h1, fun i σ hi q qh => ?_, r1, q0.2.2.2.1, fun e => absurd e hz⟩
          obtain ⟨a, e, f, g, gh⟩ := cc i σ (by omega) q qh
          exact ⟨a, e.trans (c6_bad g hz), f, g, gh⟩
        · by_cases er : ∃ (σ : aH), RS σ T s1
          · obtain ⟨σ0, q0⟩ := er
            refine ⟨s1, h1, fun i σ hi q qh => ?_, r1, q0.2.2.2.1, fun e => absurd e hz⟩
            obtain ⟨a, e, f, g, gh⟩ := cc i σ (by omega) q qh
            exact absurd ⟨a, g⟩ ex
          · refine ⟨(1, p), h1, fun i σ hi q qh => ?_, fun σ q qh => ?_, hp, fun e => absurd (show (1 : Nat) = 0 from e) (by decide)⟩
            · obtain ⟨a, e, f, g, gh⟩ := cc i σ (by omega) q qh
              exact absurd ⟨a, g⟩ ex
            · obtain ⟨b, e, f, g, _⟩ := r1 σ q qh
              exact absurd ⟨b, g⟩ er
end PHLoop
