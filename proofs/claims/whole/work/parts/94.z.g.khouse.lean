/-! ===== house, whole ===== -/
section PKHouse
variable {G : Nat × (Nat → Int32)}
theorem k_house {m : St} (ho : okAll m) (x : Int32) : ∃ m', AskS G 5 60 [.int x] [(1, 1)] m m' := by
  have hT := ho.2.2.2
  rcases rngI (x := x) (n := m.2.2.2.1 + 1) (by omega) with ⟨N, hN, rfl⟩ | hx
  · obtain ⟨s', h', cc, rr, le, gg⟩ := house_loop (G := G) (d := 48) (d2 := 51) (T := (N, m.2.2.2.2.1)) (by show N ≤ 700; omega) (N + 1) 0 hNil (by show N - 0 < N + 1; omega) (Nat.zero_le _) okH_nil
    have le : s'.2 ≤ N := le
    -- the class, up to its end
    have cls : ∀ σ, cAll σ m → ∃ b, (Rn G 60 5 [.ref 0, .int (Int32.ofNat N)] σ = aCV (Rn G 59 57 [.ref 0] b) fun σ20 => if (σ20.1 1 2) = 0 then aCV (Rn G 59 59 [.ref 3, .ref 7] σ20) fun σ21 => (some (.inl (some (.int (σ21.1 1 2))), (aSI (aSI σ21 13 1 (0 : Int32)) 0 15 (0 : Int32))) : Option (aRs × aH)) else some (.inl (some (.int (σ20.1 1 2))), σ20)) ∧ pSame sp7 σ b ∧ CS b (N, m.2.2.2.2.1) s' ∧ (s'.1 = 0 → cHb b h') := by
      intro σ a
      obtain ⟨_, _, _, q4, q5, _, _⟩ := a
      obtain ⟨a1, a2, e1, e2, f2, g2, h2⟩ := c_hBegin (G := G) (d := 48) (σ := σ) (N := N) (B := m.2.2.2.2.1) (by omega) (fun i hi => q5 i (by omega))
      obtain ⟨b, e3, f3, g3⟩ := cc 0 a2 (Nat.le_refl 0) g2 h2
      refine ⟨b, ?_, f2.trans f3, g3⟩
      have e2' : Rn G 59 22 [.ref 1, .ref 7, .ref 11] a1 = oV b := e2.trans e3
      rw [e_Rh_house, if_neg (pN_n0 (by omega)), q4, if_neg (fun h => absurd ((pN_lt (by omega) (by omega)).mp h) (by omega)), s_allow1, pXV, e1, pCV, e2', pCV]
    have ref : ∀ σ, rAll σ m → ∃ b, Rn G 60 60 [.ref 33, .int (Int32.ofNat N)] σ = Lq G 59 M_60 (44, [some (.ref 33), none, none], [], b) ∧ pSame [33, 42, 43, 44, 45, 46, 47, 48, 49] σ b ∧ RS b (N, m.2.2.2.2.1) s' ∧ (s'.1 = 0 → rHb b h') ∧ (∀ k, k ∈ [1, 2, 3, 4, 5, 12, 54] → b.1 33 k = σ.1 33 k) ∧ b.1 33 0 = 0 ∧ b.1 33 15 = 0 := by
      intro σ b
      obtain ⟨_, _, _, q4, q5, _, _⟩ := b
      obtain ⟨a1, e1, f1, g1, h1, k1, z1, z2⟩ := r_hBegin (G := G) (d := 51) (σ := σ) (N := N) (B := m.2.2.2.2.1) q4 hT (by omega) (fun i hi => q5 i (by omega))
      obtain ⟨b, e2, f2, g2, h2⟩ := rr a1 g1 h1
      have h54 : ∀ k, k ∈ [1, 2, 3, 4, 5, 12, 54] → k < 16 ∨ k = 18 ∨ 33 < k := by
        intro k hk
        simp only [List.mem_cons, List.not_mem_nil, or_false] at hk
        omega
      exact ⟨b, e1.trans e2, (f1.mono (by decide)).trans f2.1, g2, h2, fun k hk => (f2.2 k (h54 k hk)).trans (k1 k hk), (f2.2 0 (by omega)).trans z1, (f2.2 15 (by omega)).trans z2⟩
    by_cases hz : s'.1 = 0
    · obtain ⟨kz, hk', hst, hrd⟩ := gg hz
      refine ⟨(h', (0, m.2.1.2), none, 0, m.2.2.2.2.1, -1, m.2.2.2.2.2.2), ⟨hk', ⟨Nat.zero_le _, fun k hk => absurd hk (Nat.not_lt_zero k)⟩, (fun i hi => by cases hi), Nat.zero_le _⟩, Or.inl ⟨0, fun σ a b => ?_, fun σ a b => ?_⟩⟩
      · obtain ⟨c, e, f, g, gh⟩ := cls σ a
        have gh := gh hz
        obtain ⟨q1, q2, q3, q4, q5, q6, q7⟩ := a
        have cl := s_closeOk (G := G) (d := 56) g hz
        have e2 : (aSI (aSI c 1 1 0) 0 16 (-1)).1 1 2 = 0 := by
          rw [pSI_ne (by decide), pSI_of (by decide)]
          exact g.z.mpr hz
        obtain ⟨c3, hc3⟩ : ∃ c3, c3 = aSI (aCp (aCp (aCp (aSI (aSI c 1 1 0) 0 16 (-1)) 8 4 5) 9 5 286) 10 6 700) 3 3 ((aCp (aCp (aCp (aSI (aSI c 1 1 0) 0 16 (-1)) 8 4 5) 9 5 286) 10 6 700).1 7 3) := ⟨_, rfl⟩
        have cp : Rn G 59 59 [.ref 3, .ref 7] (aSI (aSI c 1 1 0) 0 16 (-1)) = oV c3 := by
          rw [e_Rh_House_copyFrom, hc3]
        have f3 : pSame [0, 1, 3, 4, 5, 6] c c3 := by
          rw [hc3]
          exact (((((pSame.rfl'.si (by decide)).si (by decide)).trans (pCp_same.mono (by decide))).trans (pCp_same.mono (by decide))).trans (pCp_same.mono (by decide))).si (by decide)
        have c31 : c3.1 1 = (aSI (aSI c 1 1 0) 0 16 (-1)).1 1 := by
          rw [hc3, pSI_ne (by decide), pCp_same.at (by decide), pCp_same.at (by decide), pCp_same.at (by decide)]
        have c30 : c3.1 0 = (aSI (aSI c 1 1 0) 0 16 (-1)).1 0 := by
          rw [hc3, pSI_ne (by decide), pCp_same.at (by decide), pCp_same.at (by decide), pCp_same.at (by decide)]
        have F : pSame [0, 1, 3, 4, 5, 6, 7, 8, 9, 10, 11, 12, 13] σ (aSI (aSI c3 13 1 0) 0 15 0) := (((f.mono (by decide)).trans (f3.mono (by decide))).si (by decide)).si (by decide)
        refine ⟨aSI (aSI c3 13 1 0) 0 15 0, ?_, ⟨?_, ⟨?_, fun k hk => absurd hk (Nat.not_lt_zero k)⟩, ?_, ?_, fun i hi => absurd hi (Nat.not_lt_zero i), ?_, ?_⟩, b.ps F (by decide)⟩
        · rw [e, cl, pCV, if_pos e2, cp, pCV, c31, e2]
        · refine cHo_cp (h := h') gh hk' (by omega) (fun k hk => ?_) (fun k hk => ?_) (fun k hk => ?_)
          · rw [pSI_ne (by decide), pSI_ne (by decide), hc3, pSI_ne (by decide), pCp_same.at (by decide), pCp_same.at (by decide), pCp_at hk, pSI_ne (by decide), pSI_ne (by decide)]
          · rw [pSI_ne (by decide), pSI_ne (by decide), hc3, pSI_ne (by decide), pCp_same.at (by decide), pCp_at hk, pCp_same.at (by decide), pSI_ne (by decide), pSI_ne (by decide)]
          · rw [pSI_ne (by decide), pSI_ne (by decide), hc3, pSI_ne (by decide), pCp_at hk, pCp_same.at (by decide), pCp_same.at (by decide), pSI_ne (by decide), pSI_ne (by decide)]
        · rw [pSI_ne (by decide), pSI_at]
          rfl
        · exact pSI_at
        · rw [pSI_ne (by decide), pSI_ne (by decide), c31, pSI_ne (by decide), pSI_at]
          rfl
        · rw [pSI_of (by decide), pSI_ne (by decide), c30, pSI_at]
        · rw [F.at (by decide)]
          exact q7
      · obtain ⟨c, e, f, g, gh, k33, z0, z15⟩ := ref σ b
        have gh := gh hz
        obtain ⟨q1, q2, q3, q4, q5, q6, q7⟩ := b
        obtain ⟨c2, e2, f2, t1, t12, t54, t33, t34, t35, t36, t37, t38, t39⟩ := r_takeOver (G := G) (d := 57) g hz kz
        have F : pSame [33, 34, 35, 36, 37, 38, 39, 42, 43, 44, 45, 46, 47, 48, 49] σ c2 := (f.mono (by decide)).trans (f2.mono (by decide))
        have e17 : c.1 33 17 = -1 := by
          have := g.2.2.2.2.1
          rw [if_pos hz] at this
          exact this
        refine ⟨c2, e.trans e2, a.ps F (by decide), ⟨?_, ⟨fun k hk => absurd hk (Nat.not_lt_zero k), ?_⟩, ?_, ?_, fun i hi => absurd hi (Nat.not_lt_zero i), ?_, ?_⟩, ?_, ?_⟩
        · refine rHo_cp (h := h') gh hk' (by omega) t1 t34 t35 t36 t37 t38 t39
        · rw [t12]
          rfl
        · exact t54
        · rw [t33 15 (by decide) (by decide) (by decide) (by decide) (by decide) (by decide) (by decide), z15]
          rfl
        · rw [t33 17 (by decide) (by decide) (by decide) (by decide) (by decide) (by decide) (by decide), e17]
        · rw [F.at (by decide)]
          exact q7
        · rw [t33 0 (by decide) (by decide) (by decide) (by decide) (by decide) (by decide) (by decide), z0]
        · exact (F 63 (by decide)).2
    · refine ⟨(m.1, m.2.1, m.2.2.1, 0, m.2.2.2.2.1, Int32.ofNat (tQ (N, m.2.2.2.2.1) s'.2), fun k => if k = 0 then m.2.2.2.2.2.2 0 + 1 else m.2.2.2.2.2.2 k), ⟨ho.1, ho.2.1, ho.2.2.1, Nat.zero_le _⟩, Or.inl ⟨Int32.ofNat s'.1, fun σ a b => ?_, fun σ a b => ?_⟩⟩
      · obtain ⟨c, e, f, g, _⟩ := cls σ a
        obtain ⟨q1, q2, q3, q4, q5, q6, q7⟩ := a
        have cl := s_closeBad (G := G) (d := 56) g hz
        have e2 : (aSI (aSI (aSI c 1 1 0) 0 16 (Int32.ofNat (tQ (N, m.2.2.2.2.1) s'.2))) 27 0 (c.1 27 0 + 1)).1 1 2 = Int32.ofNat s'.1 := by
          rw [pSI_ne (by decide), pSI_ne (by decide), pSI_of (by decide), g.2.1]
        have n2 : ¬ Int32.ofNat s'.1 = 0 := fun h => hz ((pEqL (c := 0) (n := 0) rfl (by decide) (by have := g.2.2.1; omega)).mp h)
        have F : pSame [0, 1, 7, 8, 9, 10, 11, 12, 27] σ (aSI (aSI (aSI c 1 1 0) 0 16 (Int32.ofNat (tQ (N, m.2.2.2.2.1) s'.2))) 27 0 (c.1 27 0 + 1)) := (((f.mono (by decide)).si (by decide)).si (by decide)).si (by decide)
        have e0 : ∀ k, k ≠ 16 → (aSI (aSI (aSI c 1 1 0) 0 16 (Int32.ofNat (tQ (N, m.2.2.2.2.1) s'.2))) 27 0 (c.1 27 0 + 1)).1 0 k = σ.1 0 k := by
          intro k hk
          rw [pSI_ne (by decide), pSI_of hk, pSI_ne (by decide), f.at (by decide)]
        refine ⟨_, ?_, ⟨q1.ps F (by decide) (by decide) (by decide), q2.ps F (by decide) (by decide), ?_, ?_, fun i hi => absurd hi (Nat.not_lt_zero i), ?_, ?_⟩, b.ps F (by decide)⟩
        · rw [e, cl, pCV, e2, if_neg n2]
        · show cIm _ m.2.2.1
          revert q3
          cases m.2.2.1 with
          | none => exact fun q => (e0 15 (by decide)).trans q
          | some i => exact fun q => ⟨(e0 15 (by decide)).trans q.1, q.2.ps F (by decide) (by decide)⟩
        · rw [pSI_ne (by decide), pSI_ne (by decide), pSI_at]
          rfl
        · rw [pSI_ne (by decide), pSI_at]
        · intro k hk
          show _ = if k = 0 then _ else _
          by_cases h0 : k = 0
          · rw [h0, pSI_at, if_pos rfl, f.at (by decide), q7 0 (by decide)]
          · rw [if_neg h0, pSI_of h0, pSI_ne (by decide), pSI_ne (by decide), f.at (by decide), q7 k hk]
      · obtain ⟨c, e, f, g, _, k33, z0, z15⟩ := ref σ b
        obtain ⟨q1, q2, q3, q4, q5, q6, q7⟩ := b
        have e2 := r_refused (G := G) (d := 58) g hz
        have F : pSame [33, 42, 43, 44, 45, 46, 47, 48, 49, 52] σ (aSI c 52 0 (c.1 52 0 + 1)) := (f.mono (by decide)).si (by decide)
        have e33 : (aSI c 52 0 (c.1 52 0 + 1)).1 33 = c.1 33 := pSI_ne (by decide)
        have e17 := g.2.2.2.2.1
        rw [if_neg hz] at e17
        refine ⟨_, e.trans e2, a.ps F (by decide), ⟨q1.same (fun k hk => ?_) (F.at (by decide)) (F.at (by decide)) (F.at (by decide)) (F.at (by decide)) (F.at (by decide)) (F.at (by decide)), ⟨q2.1.same (F.at (by decide)) (F.at (by decide)) (F.at (by decide)), ?_⟩, ?_, ?_, fun i hi => absurd hi (Nat.not_lt_zero i), ?_, ?_⟩, ?_, ?_⟩
        · rw [e33, k33 (1 + k) (by
            simp only [List.mem_cons, List.not_mem_nil, or_false]
            omega)]
        · rw [e33, k33 12 (by decide)]
          exact q2.2
        · show rIm _ m.2.2.1
          revert q3
          cases m.2.2.1 with
          | none =>
            intro q
            show (aSI c 52 0 (c.1 52 0 + 1)).1 33 54 = -1
            rw [e33, k33 54 (by decide)]
            exact q
          | some i =>
            intro q
            exact ⟨by rw [e33, k33 54 (by decide)]; exact q.1, q.2.same (F.at (by decide)) (F.at (by decide)) (F.at (by decide))⟩
        · rw [e33, z15]
          rfl
        · rw [e33]
          exact e17
        · intro k hk
          show _ = if k = 0 then _ else _
          by_cases h0 : k = 0
          · rw [h0, pSI_at, if_pos rfl, f.at (by decide), q7 0 (by decide)]
          · rw [if_neg h0, pSI_of h0, f.at (by decide), q7 k hk]
        · rw [e33, z0]
        · exact (F 63 (by decide)).2
  · -- refused
    refine ⟨m, Ask.toS ho (Or.inr ⟨(1, 1), by decide, fun σ I => cExI ?_, fun σ I => rExI (v := 0) ?_⟩)⟩
    · have e1 : σ.1 1 1 = Int32.ofNat m.2.2.2.1 := I.2.1.2.2.2.1
      rw [e_Rh_house, e1]
      by_cases h0 : x < 0
      · rw [if_pos h0, s_allow0, pXVt]
      · have hl : Int32.ofNat m.2.2.2.1 < x := by
          have := hx.resolve_left h0
          rw [pLe, pN_int (by omega)] at this
          rw [pLt, pN_int (by omega)]
          omega
        rw [if_neg h0, if_pos hl, s_allow0, pXVt]
    · have e15 : σ.1 33 15 = Int32.ofNat m.2.2.2.1 := I.2.2.2.2.2.1
      rw [e_Md_house, e_Md_begins0, e15]
      by_cases h0 : x < 0
      · rw [if_pos h0, s_r0 (by decide), pCI, if_pos rfl, pCI, if_pos rfl]
      · have hl : Int32.ofNat m.2.2.2.1 < x := by
          have := hx.resolve_left h0
          rw [pLe, pN_int (by omega)] at this
          rw [pLt, pN_int (by omega)]
          omega
        rw [if_neg h0, if_pos hl, s_r0 (by decide), pCI, if_pos rfl, pCI, if_pos rfl]
end PKHouse
