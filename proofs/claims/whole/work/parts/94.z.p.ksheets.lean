/-! ===== sheets, whole ===== -/
section PKSheets
variable {G : Nat × (Nat → Int32)}
/-- the begin of a reading of sheets: the reference's -/
theorem r_sBegin {d : Nat} {σ : aH} {N n : Nat} {B : Nat → Int32} (e15 : σ.1 33 15 = Int32.ofNat n) (hn : n ≤ 700) (hN : N ≤ n) (hb : ∀ i, i < N → σ.1 41 i = B i) : ∃ b, Rn G (d + 7) 106 [.ref 33, .int (Int32.ofNat N)] σ = Lq G (d + 6) M_106 (19, [some (.ref 33), none, some (.int (b.1 33 12)), none], [], b) ∧ pSame [33] σ b ∧ RS b (N, B) (0, 0) ∧ (∀ k, (k < 15 ∧ k ≠ 0) ∨ 25 < k → b.1 33 k = σ.1 33 k) ∧ b.1 33 0 = 0 ∧ b.1 33 15 = 0 := by
  obtain ⟨a, ha⟩ : ∃ a, a = aSI (aSI (aSI (aSI (aSI (aSI σ 33 0 0) 33 15 0) 33 17 (-1)) 33 16 0) 33 18 (Int32.ofNat N)) 33 19 0 := ⟨_, rfl⟩
  have fa : pSame [33] σ a := by
    rw [ha]
    exact (((((pSame.rfl'.si (by decide)).si (by decide)).si (by decide)).si (by decide)).si (by decide)).si (by decide)
  have g : ∀ k, k ≠ 0 → k ≠ 15 → k ≠ 16 → k ≠ 17 → k ≠ 18 → k ≠ 19 → a.1 33 k = σ.1 33 k := by
    intro k h0 h1 h2 h3 h4 h5
    rw [ha, pSI_of h5, pSI_of h4, pSI_of h2, pSI_of h3, pSI_of h1, pSI_of h0]
  have e0 : a.1 33 0 = 0 := by rw [ha]; simp (decide := true) only [pSI_of, pSI_at]
  have e15' : a.1 33 15 = 0 := by rw [ha]; simp (decide := true) only [pSI_of, pSI_at]
  have e16 : a.1 33 16 = 0 := by rw [ha]; simp (decide := true) only [pSI_of, pSI_at]
  have e17 : a.1 33 17 = -1 := by rw [ha]; simp (decide := true) only [pSI_of, pSI_at]
  have e18 : a.1 33 18 = Int32.ofNat N := by rw [ha]; simp (decide := true) only [pSI_of, pSI_at]
  have e19 : a.1 33 19 = Int32.ofNat 0 := by
    rw [ha]
    simp (decide := true) only [pSI_of, pSI_at]
  have rb : rB a (N, B) := ⟨e18, by show N ≤ 700; omega, fun i hi => by rw [fa.at (by decide)]; exact hb i hi⟩
  obtain ⟨b, e, f, q⟩ := s_goes0 (G := G) (d := d + 4) (a := 0) rb e16 e17 (Nat.zero_le _) e19
  refine ⟨b, ?_, fa.trans f.1, q, fun k hk => ?_, ?_, ?_⟩
  · rw [e_Md_sheets, r_begins (d := d + 4) e15 hn hN, pCI, if_neg (by decide), ← ha, e, pCV]
  · rw [f.2 k (by omega), g k (by omega) (by omega) (by omega) (by omega) (by omega) (by omega)]
  · rw [f.2 0 (by omega), e0]
  · rw [f.2 15 (by omega), e15']
theorem k_sheets {m : St} (ho : okAll m) (x : Int32) : ∃ m', AskS G 95 106 [.int x] [(1, 1)] m m' := by
  have hT := ho.2.2.2
  have h60 := ho.2.1.1
  rcases rngI (x := x) (n := m.2.2.2.1 + 1) (by omega) with ⟨N, hN, rfl⟩ | hx
  · obtain ⟨s', s2, cc, rr, gg⟩ := sheets_loop (G := G) (d := 47) (d2 := 53) (T := (N, m.2.2.2.2.1)) (h := m.1) (n0 := m.2.1.1) (by show N ≤ 700; omega) ho.1 (N + 1) 0 m.2.1 (by show N - 0 < N + 1; omega) (Nat.zero_le _) ho.2.1
    -- the class, up to its end
    have cls : ∀ σ, cAll σ m → ∃ c' b, (Rn G 60 95 [.ref 0, .int (Int32.ofNat N)] σ = aCV (Rn G 59 57 [.ref 0] b) fun σ21 => if (σ21.1 1 2) = 0 then some (.inl (some (.int (Int32.ofNat c'))), (aSI σ21 13 1 ((σ21.1 13 1) + Int32.ofNat c'))) else some (.inl (some (.int ((-1 : Int32) - (σ21.1 1 2)))), σ21)) ∧ pSame [1, 14] σ b ∧ CS b (N, m.2.2.2.2.1) s' ∧ otC m.2.1.1 σ b ∧ (s'.1 = 0 → s2.1 = m.2.1.1 + c' ∧ cRows b s2) := by
      intro σ a
      obtain ⟨q1, q2, _, q4, q5, _, _⟩ := a
      obtain ⟨a1, e1, f1, g1⟩ := c_opens (G := G) (d := 51) (σ := σ) (N := N) (B := m.2.2.2.2.1) (by omega) (fun i hi => q5 i (by omega))
      have q3 : cH3 a1 m.1 := by
        refine ⟨?_, ?_, ?_⟩
        · rw [f1.at (by decide)]
          exact q1.1 0 (by decide)
        · rw [f1.at (by decide)]
          exact q1.1 1 (by decide)
        · rw [f1.at (by decide)]
          exact q1.1 3 (by decide)
      obtain ⟨b, c', e3, f3, g3, o3, r3⟩ := cc 0 0 a1 (Nat.le_refl 0) rfl g1 q3 (by rw [f1.at (by decide)]; exact q2.1) (fun k hk c hc => by rw [f1.at (by decide)]; exact q2.2 k hk c hc)
      refine ⟨c', b, ?_, (f1.mono (by decide)).trans f3, g3, fun j hj => by rw [o3 j hj, f1.at (by decide)], r3⟩
      have e2' : Rn G 59 96 [.ref 1, .ref 3, .ref 13] a1 = oI (Int32.ofNat c') b := (e_Rh_SheetReader_readSheets G 58 a1).trans e3
      rw [e_Rh_sheets, if_neg (pN_n0 (by omega)), q4, if_neg (fun h => absurd ((pN_lt (by omega) (by omega)).mp h) (by omega)), s_allow1, pXV, e1, pCV, e2', pCI]
    have ref : ∀ σ, rAll σ m → ∃ b y, Rn G 60 106 [.ref 33, .int (Int32.ofNat N)] σ = Lq G 59 M_106 (19, [some (.ref 33), none, some (.int (Int32.ofNat y)), none], [], b) ∧ pSame [33, 40, 53, 54] σ b ∧ RS b (N, m.2.2.2.2.1) s' ∧ otN m.2.1.1 σ b ∧ (s'.1 = 0 → y = s2.1 ∧ rSh b 40 53 54 s2) ∧ (∀ k, (k < 15 ∧ k ≠ 0) ∨ 25 < k → b.1 33 k = σ.1 33 k) ∧ b.1 33 0 = 0 ∧ b.1 33 15 = 0 := by
      intro σ b
      obtain ⟨q1, q2, _, q4, q5, _, _⟩ := b
      obtain ⟨a1, e1, f1, g1, k1, z1, z2⟩ := r_sBegin (G := G) (d := 53) (σ := σ) (N := N) (B := m.2.2.2.2.1) q4 hT (by omega) (fun i hi => q5 i (by omega))
      have q3 : rH3 a1 m.1 := ⟨(k1 1 (by omega)).trans (q1.1 0 (by decide)), (k1 2 (by omega)).trans (q1.1 1 (by decide)), (k1 4 (by omega)).trans (q1.1 3 (by decide))⟩
      obtain ⟨b, y, e2, f2, g2, o2, r2⟩ := rr a1 g1 q3 (q2.1.same (f1.at (by decide)) (f1.at (by decide)) (f1.at (by decide)))
      rw [k1 12 (by omega), q2.2] at e1
      refine ⟨b, y, e1.trans e2, (f1.mono (by decide)).trans f2.1, g2, ⟨fun j hj => by rw [o2.1 j hj, f1.at (by decide)], fun j hj => ⟨by rw [(o2.2 j hj).1, f1.at (by decide)], by rw [(o2.2 j hj).2, f1.at (by decide)]⟩⟩, r2, fun k hk => (f2.2 k (by omega)).trans (k1 k hk), (f2.2 0 (by omega)).trans z1, (f2.2 15 (by omega)).trans z2⟩
    by_cases hz : s'.1 = 0
    · obtain ⟨kz, ok2⟩ := gg hz
      have h2 : s2.1 ≤ 60 := ok2.1
      refine ⟨(m.1, s2, m.2.2.1, 0, m.2.2.2.2.1, -1, m.2.2.2.2.2.2), ⟨ho.1, ok2, ho.2.2.1, Nat.zero_le _⟩, Or.inl ⟨Int32.ofNat s2.1 - Int32.ofNat m.2.1.1, fun σ a b => ?_, fun σ a b => ?_⟩⟩
      · obtain ⟨c', c, e, f, g, o, r⟩ := cls σ a
        obtain ⟨r1, r2⟩ := r hz
        obtain ⟨q1, q2, q3, q4, q5, q6, q7⟩ := a
        have cl := s_closeOk (G := G) (d := 56) g hz
        have e2 : (aSI (aSI c 1 1 0) 0 16 (-1)).1 1 2 = 0 := by
          rw [pSI_ne (by decide), pSI_of (by decide)]
          exact g.z.mpr hz
        have e13 : (aSI (aSI c 1 1 0) 0 16 (-1)).1 13 1 = Int32.ofNat m.2.1.1 := by
          rw [pSI_ne (by decide), pSI_ne (by decide), f.at (by decide)]
          exact q2.1
        have es : Int32.ofNat m.2.1.1 + Int32.ofNat c' = Int32.ofNat s2.1 := by rw [pA, ← r1]
        have ev : Int32.ofNat s2.1 - Int32.ofNat m.2.1.1 = Int32.ofNat c' := by rw [← es, Int32.add_comm, Int32.add_sub_cancel]
        have F : pSame [0, 1, 13, 14] σ (aSI (aSI (aSI c 1 1 0) 0 16 (-1)) 13 1 (Int32.ofNat s2.1)) := (((f.mono (by decide)).si (by decide)).si (by decide)).si (by decide)
        have e0 : ∀ k, k ≠ 16 → (aSI (aSI (aSI c 1 1 0) 0 16 (-1)) 13 1 (Int32.ofNat s2.1)).1 0 k = σ.1 0 k := by
          intro k hk
          rw [pSI_ne (by decide), pSI_of hk, pSI_ne (by decide), f.at (by decide)]
        refine ⟨aSI (aSI (aSI c 1 1 0) 0 16 (-1)) 13 1 (Int32.ofNat s2.1), ?_, ⟨q1.ps F (by decide) (by decide) (by decide), ⟨pSI_at, fun k hk c hc => ?_⟩, ?_, ?_, fun i hi => absurd hi (Nat.not_lt_zero i), ?_, ?_⟩, b.ps F (by decide)⟩
        · rw [e, cl, pCV, if_pos e2, e13, es, ev]
        · show (aSI (aSI (aSI _ 1 1 0) 0 16 (-1)) 13 1 (Int32.ofNat s2.1)).1 14 _ = _
          rw [pSI_ne (by decide), pSI_ne (by decide), pSI_ne (by decide)]
          exact r2 k hk c hc
        · show cIm _ m.2.2.1
          revert q3
          cases m.2.2.1 with
          | none => exact fun q => (e0 15 (by decide)).trans q
          | some i => exact fun q => ⟨(e0 15 (by decide)).trans q.1, q.2.ps F (by decide) (by decide)⟩
        · rw [pSI_ne (by decide), pSI_ne (by decide), pSI_at]
          rfl
        · rw [pSI_ne (by decide), pSI_at]
        · rw [F.at (by decide)]
          exact q7
      · obtain ⟨c, y, e, f, g, o, r, k33, z0, z15⟩ := ref σ b
        obtain ⟨r1, r2⟩ := r hz
        subst r1
        obtain ⟨q1, q2, q3, q4, q5, q6, q7⟩ := b
        have e20 : c.1 33 20 = Int32.ofNat (tK (N, m.2.2.2.2.1) s'.2) := g.2.2.2.2.2.2.1
        have e12 : c.1 33 12 = Int32.ofNat m.2.1.1 := (k33 12 (by omega)).trans q2.2
        have e2 : Lq G 59 M_106 (19, [some (.ref 33), none, some (.int (Int32.ofNat s2.1)), none], [], c) = oI (Int32.ofNat s2.1 - Int32.ofNat m.2.1.1) (aSI c 33 12 (Int32.ofNat s2.1)) := by
          rw [c_Md_sheets_19, s_good (d := 58) g, pCI, pB0, if_pos hz, e20, kz, if_pos (show Int32.ofNat 0 = 0 from rfl), s_good (d := 58) g, pCI, pB0, if_pos hz, e12]
        have F : pSame [33, 40, 53, 54] σ (aSI c 33 12 (Int32.ofNat s2.1)) := f.si (by decide)
        have e17 : c.1 33 17 = -1 := by
          have := g.2.2.2.2.1
          rw [if_pos hz] at this
          exact this
        have e33 : ∀ k, k ≠ 12 → (aSI c 33 12 (Int32.ofNat s2.1)).1 33 k = c.1 33 k := fun k hk => pSI_of hk
        refine ⟨_, e.trans e2, a.ps F (by decide), ⟨q1.same (fun k hk => ?_) (F.at (by decide)) (F.at (by decide)) (F.at (by decide)) (F.at (by decide)) (F.at (by decide)) (F.at (by decide)), ⟨r2.same (pSI_ne (by decide)) (pSI_ne (by decide)) (pSI_ne (by decide)), pSI_at⟩, ?_, ?_, fun i hi => absurd hi (Nat.not_lt_zero i), ?_, ?_⟩, ?_, ?_⟩
        · rw [e33 (1 + k) (by omega), k33 (1 + k) (by omega)]
        · show rIm _ m.2.2.1
          revert q3
          cases m.2.2.1 with
          | none => exact fun q => ((e33 54 (by decide)).trans (k33 54 (by omega))).trans q
          | some i => exact fun q => ⟨((e33 54 (by decide)).trans (k33 54 (by omega))).trans q.1, q.2.same (F.at (by decide)) (F.at (by decide)) (F.at (by decide))⟩
        · rw [e33 15 (by decide), z15]
          rfl
        · rw [e33 17 (by decide), e17]
        · rw [F.at (by decide)]
          exact q7
        · rw [e33 0 (by decide), z0]
        · exact (F 63 (by decide)).2
    · refine ⟨(m.1, m.2.1, m.2.2.1, 0, m.2.2.2.2.1, Int32.ofNat (tQ (N, m.2.2.2.2.1) s'.2), fun k => if k = 0 then m.2.2.2.2.2.2 0 + 1 else m.2.2.2.2.2.2 k), ⟨ho.1, ho.2.1, ho.2.2.1, Nat.zero_le _⟩, Or.inl ⟨(-1 : Int32) - Int32.ofNat s'.1, fun σ a b => ?_, fun σ a b => ?_⟩⟩
      · obtain ⟨c', c, e, f, g, o, _⟩ := cls σ a
        obtain ⟨q1, q2, q3, q4, q5, q6, q7⟩ := a
        have cl := s_closeBad (G := G) (d := 56) g hz
        have e2 : (aSI (aSI (aSI c 1 1 0) 0 16 (Int32.ofNat (tQ (N, m.2.2.2.2.1) s'.2))) 27 0 (c.1 27 0 + 1)).1 1 2 = Int32.ofNat s'.1 := by
          rw [pSI_ne (by decide), pSI_ne (by decide), pSI_of (by decide), g.2.1]
        have n2 : ¬ Int32.ofNat s'.1 = 0 := fun h => hz ((pEqL (c := 0) (n := 0) rfl (by decide) (by have := g.2.2.1; omega)).mp h)
        have F : pSame [0, 1, 14, 27] σ (aSI (aSI (aSI c 1 1 0) 0 16 (Int32.ofNat (tQ (N, m.2.2.2.2.1) s'.2))) 27 0 (c.1 27 0 + 1)) := (((f.mono (by decide)).si (by decide)).si (by decide)).si (by decide)
        have e0 : ∀ k, k ≠ 16 → (aSI (aSI (aSI c 1 1 0) 0 16 (Int32.ofNat (tQ (N, m.2.2.2.2.1) s'.2))) 27 0 (c.1 27 0 + 1)).1 0 k = σ.1 0 k := by
          intro k hk
          rw [pSI_ne (by decide), pSI_of hk, pSI_ne (by decide), f.at (by decide)]
        refine ⟨_, ?_, ⟨q1.ps F (by decide) (by decide) (by decide), ⟨?_, fun k hk w hw => ?_⟩, ?_, ?_, fun i hi => absurd hi (Nat.not_lt_zero i), ?_, ?_⟩, b.ps F (by decide)⟩
        · rw [e, cl, pCV, e2, if_neg n2]
        · rw [F.at (by decide)]
          exact q2.1
        · have hk : k < m.2.1.1 := hk
          show (aSI (aSI (aSI c 1 1 0) 0 16 (Int32.ofNat (tQ (N, m.2.2.2.2.1) s'.2))) 27 0 (c.1 27 0 + 1)).1 14 (18 * k + w) = m.2.1.2 k w
          rw [pSI_ne (by decide), pSI_ne (by decide), pSI_ne (by decide), o _ (by omega)]
          exact q2.2 k hk w hw
        · show cIm _ m.2.2.1
          revert q3
          cases m.2.2.1 with
          | none => exact fun q => (e0 15 (by decide)).trans q
          | some i => exact fun q => ⟨(e0 15 (by decide)).trans q.1, q.2.ps F (by decide) (by decide)⟩
        · rw [pSI_ne (by decide), pSI_ne (by decide), pSI_at]
          rfl
        · rw [pSI_ne (by decide), pSI_at]
        · intro k hk
          show _ = if k = 0 then _ else _
          by_cases h0 : k = 0
          · rw [h0, pSI_at, if_pos rfl, f.at (by decide), q7 0 (by decide)]
          · rw [if_neg h0, pSI_of h0, pSI_ne (by decide), pSI_ne (by decide), f.at (by decide), q7 k hk]
      · obtain ⟨c, y, e, f, g, o, _, k33, z0, z15⟩ := ref σ b
        obtain ⟨q1, q2, q3, q4, q5, q6, q7⟩ := b
        have e2 : Lq G 59 M_106 (19, [some (.ref 33), none, some (.int (Int32.ofNat y)), none], [], c) = oI ((-1 : Int32) - Int32.ofNat s'.1) (aSI c 52 0 (c.1 52 0 + 1)) := by
          rw [c_Md_sheets_19, s_good (d := 58) g, pCI, pB0, if_neg hz, s_good (d := 58) g, pCI, pB0, if_neg hz, g.2.1]
        have F : pSame [33, 40, 52, 53, 54] σ (aSI c 52 0 (c.1 52 0 + 1)) := (f.mono (by decide)).si (by decide)
        have e33 : (aSI c 52 0 (c.1 52 0 + 1)).1 33 = c.1 33 := pSI_ne (by decide)
        have e17 := g.2.2.2.2.1
        rw [if_neg hz] at e17
        refine ⟨_, e.trans e2, a.ps F (by decide), ⟨q1.same (fun k hk => ?_) (F.at (by decide)) (F.at (by decide)) (F.at (by decide)) (F.at (by decide)) (F.at (by decide)) (F.at (by decide)), ⟨fun k hk => ?_, ?_⟩, ?_, ?_, fun i hi => absurd hi (Nat.not_lt_zero i), ?_, ?_⟩, ?_, ?_⟩
        · rw [e33, k33 (1 + k) (by omega)]
        · have hk : k < m.2.1.1 := hk
          obtain ⟨y1, y2, y3, y4, y5⟩ := q2.1 k hk
          obtain ⟨o3, o4⟩ := o.2 k hk
          have t40 : ∀ j, (aSI c 52 0 (c.1 52 0 + 1)).1 40 j = c.1 40 j := fun j => by rw [pSI_ne (by decide)]
          have t53 : ∀ j, (aSI c 52 0 (c.1 52 0 + 1)).1 53 j = c.1 53 j := fun j => by rw [pSI_ne (by decide)]
          have t54 : ∀ j, (aSI c 52 0 (c.1 52 0 + 1)).1 54 j = c.1 54 j := fun j => by rw [pSI_ne (by decide)]
          refine ⟨fun j hj => ?_, ?_, ?_, ?_, ?_⟩
          · rw [t40, o.1 _ (by omega)]
            exact y1 j hj
          · rw [t40, o.1 _ (by omega)]
            exact y2
          · rw [t40, o.1 _ (by omega)]
            exact y3
          · rw [t54, o4]
            exact y4
          · rw [t54, t53, o4, o3]
            exact y5
        · rw [e33, k33 12 (by omega)]
          exact q2.2
        · show rIm _ m.2.2.1
          revert q3
          cases m.2.2.1 with
          | none =>
            intro q
            show (aSI c 52 0 (c.1 52 0 + 1)).1 33 54 = -1
            rw [e33, k33 54 (by omega)]
            exact q
          | some i =>
            intro q
            exact ⟨by rw [e33, k33 54 (by omega)]; exact q.1, q.2.same (F.at (by decide)) (F.at (by decide)) (F.at (by decide))⟩
        · rw [e33, z15]
          rfl
        · rw [e33]
          exact e17
        · intro k hk
          show _ = if k = 0 then _ else _
          by_cases h0 : k = 0
          · rw [h0, pSI_at, if_pos rfl, f.at (by decide), q7 0 (by decide)]
          · rw [if_neg h0, pSI_of h0, f.at (by decide), q7 k hk]
        · rw [e33, z0]
        · exact (F 63 (by decide)).2
  · -- refused
    refine ⟨m, Ask.toS ho (Or.inr ⟨(1, 1), by decide, fun σ I => cExI ?_, fun σ I => rExI (v := 0) ?_⟩)⟩
    · have e1 : σ.1 1 1 = Int32.ofNat m.2.2.2.1 := I.2.1.2.2.2.1
      rw [e_Rh_sheets, e1]
      by_cases h0 : x < 0
      · rw [if_pos h0, s_allow0, pXVt]
      · have hl : Int32.ofNat m.2.2.2.1 < x := by
          have := hx.resolve_left h0
          rw [pLe, pN_int (by omega)] at this
          rw [pLt, pN_int (by omega)]
          omega
        rw [if_neg h0, if_pos hl, s_allow0, pXVt]
    · have e15 : σ.1 33 15 = Int32.ofNat m.2.2.2.1 := I.2.2.2.2.2.1
      rw [e_Md_sheets, e_Md_begins0, e15]
      by_cases h0 : x < 0
      · rw [if_pos h0, s_r0 (by decide), pCI, if_pos rfl, pCI, if_pos rfl]
      · have hl : Int32.ofNat m.2.2.2.1 < x := by
          have := hx.resolve_left h0
          rw [pLe, pN_int (by omega)] at this
          rw [pLt, pN_int (by omega)]
          omega
        rw [if_neg h0, if_pos hl, s_r0 (by decide), pCI, if_pos rfl, pCI, if_pos rfl]
end PKSheets
