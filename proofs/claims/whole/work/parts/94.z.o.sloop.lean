/-! ===== all sheets of a reading, on both sides ===== -/
def cRows (σ : aH) (s : Sh) : Prop := ∀ k, k < s.1 → ∀ c, c < 18 → σ.1 14 (18 * k + c) = s.2 k c
theorem shAdd_at {s : Sh} {r : Nat → Int32} : (shAdd s r).2 s.1 = r := if_pos rfl
theorem shAdd_lt {s : Sh} {r : Nat → Int32} {k : Nat} (h : k < s.1) : (shAdd s r).2 k = s.2 k := if_neg (by omega)
theorem cRows.add {σ b : aH} {s : Sh} {R : Nat → Int32} (q : cRows σ s) (o : otC s.1 σ b) (r : rwC b s.1 R) : cRows b (shAdd s R) := by
  intro k hk c hc
  have hk : k < s.1 + 1 := hk
  by_cases e : k = s.1
  · subst e
    rw [shAdd_at]
    exact r c hc
  · have lt : k < s.1 := by omega
    rw [shAdd_lt lt, o _ (by omega)]
    exact q k lt c hc
theorem rSh.addN {σ b : aH} {s : Sh} {R : Nat → Int32} (q : rSh σ 40 53 54 s) (o : otN s.1 σ b) (r : rwN b s.1 R) : rSh b 40 53 54 (shAdd s R) := by
  intro k hk
  have hk : k < s.1 + 1 := hk
  by_cases e : k = s.1
  · subst e
    rw [shAdd_at]
    exact r
  · have lt : k < s.1 := by omega
    obtain ⟨a1, a2, a3, a4, a5⟩ := q k lt
    obtain ⟨g1, g2⟩ := o.2 k lt
    rw [shAdd_lt lt]
    refine ⟨fun j hj => by rw [o.1 _ (by omega), a1 j hj], by rw [o.1 _ (by omega), a2], by rw [o.1 _ (by omega), a3], by rw [g2]; exact a4, ?_⟩
    rw [g2, g1]
    exact a5
def slO (G : Nat × (Nat → Int32)) (d d2 : Nat) (T : Tx) (h : Ho) (n0 p : Nat) (s : Sh) (s' : Nat × Nat) (s2 : Sh) : Prop := (∀ i c σ, i ≤ p → s.1 = n0 + c → CS σ T (0, p) → cH3 σ h → σ.1 13 1 = Int32.ofNat n0 → cRows σ s → ∃ b c', Lq G (d + 11) M_96 (5, [some (.ref 1), some (.ref 3), some (.ref 13), some (.int (Int32.ofNat c)), some (.int (Int32.ofNat i))], [], σ) = oI (Int32.ofNat c') b ∧ pSame [1, 14] σ b ∧ CS b T s' ∧ otC s.1 σ b ∧ (s'.1 = 0 → s2.1 = n0 + c' ∧ cRows b s2)) ∧ (∀ σ, RS σ T (0, p) → rH3 σ h → rSh σ 40 53 54 s → ∃ b x, Lq G (d2 + 6) M_106 (19, [some (.ref 33), none, some (.int (Int32.ofNat s.1)), none], [], σ) = Lq G (d2 + 6) M_106 (19, [some (.ref 33), none, some (.int (Int32.ofNat x)), none], [], b) ∧ rF4 σ b ∧ RS b T s' ∧ otN s.1 σ b ∧ (s'.1 = 0 → x = s2.1 ∧ rSh b 40 53 54 s2)) ∧ (s'.1 = 0 → tK T s'.2 = 0 ∧ Sok h s2)
section PSLoop
variable {G : Nat × (Nat → Int32)} {d d2 : Nat} {T : Tx} {h : Ho} {n0 : Nat}
theorem s_isShW {σ : aH} {p : Nat} (q1 : CS σ T (0, p)) : Rn G (d + 6) 48 [.ref 1, .ref 116] σ = oI (bI (tW T (0, p) 36)) σ := by
  have e := s_isW (G := G) (d := d) (r := 116) (x := 36) so_116 (by decide) q1
  rw [e_Rh_Tape_isWord, e, pCI]
  cases tW T (0, p) 36 <;> rfl
theorem c5_bad {s : Nat × Nat} {c i : Nat} {σ : aH} (q : CS σ T s) (h : s.1 ≠ 0) : Lq G d M_96 (5, [some (.ref 1), some (.ref 3), some (.ref 13), some (.int (Int32.ofNat c)), some (.int (Int32.ofNat i))], [], σ) = oI (Int32.ofNat c) σ := by
  rw [c_Rh_SheetReader_readSheets_5]
  by_cases h7 : (700 : Int32) ≤ Int32.ofNat i
  · rw [if_pos h7]
  · rw [if_neg h7, if_neg (fun e => h (q.z.mp e))]
theorem c5_end {p c i : Nat} {σ : aH} (q : CS σ T (0, p)) (h : tK T p = 0) : Lq G d M_96 (5, [some (.ref 1), some (.ref 3), some (.ref 13), some (.int (Int32.ofNat c)), some (.int (Int32.ofNat i))], [], σ) = oI (Int32.ofNat c) σ := by
  have e4 : σ.1 1 4 = Int32.ofNat (tK T p) := q.2.2.2.2.2.1
  rw [c_Rh_SheetReader_readSheets_5]
  by_cases h7 : (700 : Int32) ≤ Int32.ofNat i
  · rw [if_pos h7]
  · rw [if_neg h7, if_pos (q.z.mpr rfl), if_pos (by rw [e4, h]; rfl)]
theorem sheets_loop (hT : T.1 ≤ 700) (hh : Hok h) : ∀ (n p : Nat) (s : Sh), T.1 - p < n → p ≤ T.1 → Sok h s → ∃ s' s2, slO G d d2 T h n0 p s s' s2 := by
  intro n
  induction n with
  | zero => intro p _ h; exact absurd h (Nat.not_lt_zero _)
  | succ n ih =>
    intro p s hn hp ok
    have h60 : s.1 ≤ 60 := ok.1
    by_cases k0 : tK T p = 0
    · exact ⟨(0, p), s, fun i c σ hi hs q q3 q13 qr => ⟨σ, c, c5_end q k0, pSame.rfl', q, fun _ _ => rfl, fun _ => ⟨hs, qr⟩⟩, fun σ q q3 qr => ⟨σ, s.1, rfl, ⟨pSame.rfl', fun _ _ => rfl⟩, q, ⟨fun _ _ => rfl, fun _ _ => ⟨rfl, rfl⟩⟩, fun _ => ⟨rfl, qr⟩⟩, fun _ => ⟨k0, ok⟩⟩
    · have lt : p < T.1 := by
        have a := tQ_le hp
        have : ¬ T.1 ≤ tQ T p := fun e => k0 (tK0.mpr e)
        omega
      have le := tE_le hp
      have gt := tE_gt hp k0
      have k5 : tK T p < 5 := tKq_lt T (tQ T p)
      -- the beginnings of a turn
      have cT : ∀ i c σ, i ≤ p → s.1 = n0 + c → CS σ T (0, p) → σ.1 13 1 = Int32.ofNat n0 → Lq G (d + 11) M_96 (5, [some (.ref 1), some (.ref 3), some (.ref 13), some (.int (Int32.ofNat c)), some (.int (Int32.ofNat i))], [], σ) = if tW T (0, p) 36 = true then (if s.1 < 60 then aCV (Rn G (d + 11) 8 [.ref 1] σ) fun σ4 => aCV (Rn G (d + 11) 97 [.ref 1, .ref 3, .ref 13, .int (σ4.1 13 1 + Int32.ofNat c)] σ4) fun σ5 => Lq G (d + 11) M_96 (5, [some (.ref 1), some (.ref 3), some (.ref 13), some (.int (Int32.ofNat (c + 1))), some (.int (Int32.ofNat (i + 1)))], [], σ5) else aCV (Rn G (d + 11) 30 [.ref 1, .int 2] σ) fun σ6 => Lq G (d + 11) M_96 (5, [some (.ref 1), some (.ref 3), some (.ref 13), some (.int (Int32.ofNat c)), some (.int (Int32.ofNat (i + 1)))], [], σ6)) else aCV (Rn G (d + 11) 30 [.ref 1, .int 1] σ) fun σ3 => Lq G (d + 11) M_96 (5, [some (.ref 1), some (.ref 3), some (.ref 13), some (.int (Int32.ofNat c)), some (.int (Int32.ofNat (i + 1)))], [], σ3) := by
        intro i c σ hi hs q q13
        rw [c_Rh_SheetReader_readSheets_5, if_neg (pGoL (c := 700) (n := 700) rfl (by omega) (by decide)), if_pos (q.z.mpr rfl), if_neg (k_n0 q k0), s_isShW (d := d + 5) q, pCI, pN_s, pN_s]
        by_cases hw : tW T (0, p) 36 = true
        · rw [if_pos hw, if_neg (fun e => bI0.mp e hw), q13, pA, ← hs]
          by_cases hf : s.1 < 60
          · rw [if_pos hf, if_pos (show Int32.ofNat s.1 < 60 from (pN_lt (b := 60) (by omega) (by decide)).mpr hf)]
          · rw [if_neg hf, if_neg (fun e : Int32.ofNat s.1 < 60 => hf ((pN_lt (b := 60) (by omega) (by decide)).mp e))]
        · rw [if_neg hw, if_pos (bI0.mpr hw)]
      have rB' : ∀ σ, RS σ T (0, p) → Lq G (d2 + 6) M_106 (19, [some (.ref 33), none, some (.int (Int32.ofNat s.1)), none], [], σ) = aCV (Rn G (d2 + 6) 107 [.ref 33, .int (Int32.ofNat s.1)] σ) fun σ7 => Lq G (d2 + 6) M_106 (19, [some (.ref 33), none, some (.int (Int32.ofNat (s.1 + 1))), none], [], σ7) := by
        intro σ q
        have e20 : σ.1 33 20 = Int32.ofNat (tK T p) := q.2.2.2.2.2.2.1
        rw [c_Md_sheets_19, s_good (d := d2 + 5) q, pCI, pB0, if_pos rfl, e20, if_neg (fun e => k0 ((pEqL (c := 0) (n := 0) rfl (by decide) (by omega)).mp e)), pN_s]
      -- with a fault at once
      have bad : ∀ x : Nat, x ≠ 0 → (∀ i c σ, i ≤ p → s.1 = n0 + c → CS σ T (0, p) → σ.1 13 1 = Int32.ofNat n0 → ∃ b, Lq G (d + 11) M_96 (5, [some (.ref 1), some (.ref 3), some (.ref 13), some (.int (Int32.ofNat c)), some (.int (Int32.ofNat i))], [], σ) = Lq G (d + 11) M_96 (5, [some (.ref 1), some (.ref 3), some (.ref 13), some (.int (Int32.ofNat c)), some (.int (Int32.ofNat (i + 1)))], [], b) ∧ pSame [1] σ b ∧ CS b T (x, p)) → (∀ σ, RS σ T (0, p) → ∃ b, Rn G (d2 + 6) 107 [.ref 33, .int (Int32.ofNat s.1)] σ = oV b ∧ rFr σ b ∧ RS b T (x, p)) → ∃ s' s2, slO G d d2 T h n0 p s s' s2 := by
        intro x hx hc hr
        refine ⟨(x, p), s, fun i c σ hi hs q q3 q13 qr => ?_, fun σ q q3 qr => ?_, fun e => absurd e hx⟩
        · obtain ⟨b, e, f, g⟩ := hc i c σ hi hs q q13
          exact ⟨b, c, e.trans (c5_bad g hx), f.mono (by decide), g, fun _ _ => by rw [f.at (by decide)], fun e => absurd e hx⟩
        · obtain ⟨b, e, f, g⟩ := hr σ q
          refine ⟨b, s.1 + 1, ?_, f.f4, g, ⟨fun _ _ => by rw [f.1.at (by decide)], fun _ _ => ⟨by rw [f.1.at (by decide)], by rw [f.1.at (by decide)]⟩⟩, fun e => absurd e hx⟩
          rw [rB' σ q, e, pCV]
      by_cases hw : tW T (0, p) 36 = true
      · have hkn : kn T (tQ T p) = 36 := (kn_lit (x := 36) (by decide) rfl).mpr hw
        by_cases hf : s.1 < 60
        · -- a sheet
          obtain ⟨s1, R1, a1, a2, a3⟩ := sheet1 (G := G) (d := d) (d2 := d2) (T := T) (k := s.1) (h := h) (p := tE T p) hf hh le.2.1
          have cS : ∀ i c σ, i ≤ p → s.1 = n0 + c → CS σ T (0, p) → cH3 σ h → σ.1 13 1 = Int32.ofNat n0 → ∃ b, Lq G (d + 11) M_96 (5, [some (.ref 1), some (.ref 3), some (.ref 13), some (.int (Int32.ofNat c)), some (.int (Int32.ofNat i))], [], σ) = Lq G (d + 11) M_96 (5, [some (.ref 1), some (.ref 3), some (.ref 13), some (.int (Int32.ofNat (c + 1))), some (.int (Int32.ofNat (i + 1)))], [], b) ∧ pSame [1, 14] σ b ∧ CS b T s1 ∧ otC s.1 σ b ∧ (s1.1 = 0 → rwC b s.1 R1) := by
            intro i c σ hi hs q q3 q13
            obtain ⟨a, e, f, g⟩ := s_adv (G := G) (d := d + 4) q
            have g : CS a T (0, tE T p) := g
            obtain ⟨b, e2, f2, g2, o2, r2⟩ := a1 a g (q3.same (f.at (by decide)))
            refine ⟨b, ?_, (f.mono (by decide)).trans f2, g2, fun j hj => by rw [o2 j hj, f.at (by decide)], r2⟩
            have e13 : a.1 13 1 = Int32.ofNat n0 := by rw [f.at (by decide)]; exact q13
            rw [cT i c σ hi hs q q13, if_pos hw, if_pos hf, e, pCV, e13, pA, ← hs, e2, pCV]
          have rS' : ∀ σ, RS σ T (0, p) → rH3 σ h → ∃ b, Lq G (d2 + 6) M_106 (19, [some (.ref 33), none, some (.int (Int32.ofNat s.1)), none], [], σ) = Lq G (d2 + 6) M_106 (19, [some (.ref 33), none, some (.int (Int32.ofNat (s.1 + 1))), none], [], b) ∧ rF4 σ b ∧ RS b T s1 ∧ otN s.1 σ b ∧ (s1.1 = 0 → rwN b s.1 R1) := by
            intro σ q q3
            obtain ⟨a, e, f, g⟩ := s_goes (G := G) (d := d2 + 3) q rfl
            have g : RS a T (0, tE T p) := g
            obtain ⟨b, e2, f2, g2, o2, r2⟩ := a2 a g (q3.same f.2)
            refine ⟨b, ?_, f.f4.trans f2, g2, ⟨fun j hj => by rw [o2.1 j hj, f.1.at (by decide)], fun j hj => ⟨by rw [(o2.2 j hj).1, f.1.at (by decide)], by rw [(o2.2 j hj).2, f.1.at (by decide)]⟩⟩, r2⟩
            have n60 : ¬ Int32.ofNat s.1 = 60 := fun e => absurd ((pEqL (c := 60) (n := 60) rfl (by decide) (by omega)).mp e) (by omega)
            rw [rB' σ q, e_Md_readsSheet, s_known (d := d2 + 2) q, pCI, show kn T (tQ T (0, p).2) = 36 from hkn, if_pos rfl, if_neg n60, s_good (d := d2 + 4) q, pCI, pB0, if_pos rfl, e, pCV, e2, pCV]
          by_cases hz : s1.1 = 0
          · obtain ⟨b1, b2, b3⟩ := a3 hz
            have es : s1 = (0, s1.2) := by
              rw [← hz]
            obtain ⟨s', s2, c1, c2, c3⟩ := ih s1.2 (shAdd s R1) (by omega) b3 (ok.add hf b1)
            refine ⟨s', s2, fun i c σ hi hs q q3 q13 qr => ?_, fun σ q q3 qr => ?_, c3⟩
            · obtain ⟨a, e, f, g, o, r⟩ := cS i c σ hi hs q q3 q13
              rw [es] at g
              obtain ⟨b, c', e2, f2, g2, o2, r2⟩ := c1 (i + 1) (c + 1) a (by omega) (by show s.1 + 1 = n0 + (c + 1); omega) g (q3.same (f.at (by decide))) (by rw [f.at (by decide)]; exact q13) (qr.add o (r hz))
              refine ⟨b, c', e.trans e2, f.trans f2, g2, fun j hj => ?_, r2⟩
              have hj' : j < 18 * (shAdd s R1).1 := by
                show j < 18 * (s.1 + 1)
                omega
              rw [o2 j hj', o j hj]
            · obtain ⟨a, e, f, g, o, r⟩ := rS' σ q q3
              rw [es] at g
              obtain ⟨b, x, e2, f2, g2, o2, r2⟩ := c2 a g (q3.same f.2) (qr.addN o (r hz))
              refine ⟨b, x, e.trans e2, f.trans f2, g2, ⟨fun j hj => ?_, fun j hj => ?_⟩, r2⟩
              · have hj' : j < 17 * (shAdd s R1).1 := by
                  show j < 17 * (s.1 + 1)
                  omega
                rw [o2.1 j hj', o.1 j hj]
              · have hj' : j < (shAdd s R1).1 := by
                  show j < s.1 + 1
                  omega
                exact ⟨(o2.2 j hj').1.trans (o.2 j hj).1, (o2.2 j hj').2.trans (o.2 j hj).2⟩
          · refine ⟨s1, s, fun i c σ hi hs q q3 q13 qr => ?_, fun σ q q3 qr => ?_, fun e => absurd e hz⟩
            · obtain ⟨a, e, f, g, o, r⟩ := cS i c σ hi hs q q3 q13
              exact ⟨a, c + 1, e.trans (c5_bad g hz), f, g, o, fun e => absurd e hz⟩
            · obtain ⟨a, e, f, g, o, r⟩ := rS' σ q q3
              exact ⟨a, s.1 + 1, e, f, g, o, fun e => absurd e hz⟩
        · -- full
          refine bad 2 (by decide) (fun i c σ hi hs q q13 => ?_) (fun σ q => ?_)
          · obtain ⟨a, e, f, g⟩ := s_failB (G := G) (d := d + 10) q (x := 2) (c := 2) rfl (by decide)
            refine ⟨a, ?_, f, g⟩
            rw [cT i c σ hi hs q q13, if_pos hw, if_neg hf, e, pCV]
          · obtain ⟨a, e, f, g⟩ := s_wrong (G := G) (d := d2 + 4) q (x := 2) (c := 2) rfl (by decide) (by decide)
            have g : RS a T (2, p) := g
            have n2 : ¬ ((2, p) : Nat × Nat).1 = 0 := (by decide : ¬ (2 : Nat) = 0)
            refine ⟨a, ?_, f, g⟩
            rw [e_Md_readsSheet, s_known (d := d2 + 2) q, pCI, show kn T (tQ T (0, p).2) = 36 from hkn, if_pos rfl, if_pos (show Int32.ofNat s.1 = 60 by rw [show s.1 = 60 by omega]; rfl), e, pCV, s_good (d := d2 + 4) g, pCI, pB0, if_neg n2]
      · -- no sheet
        have hkn : ¬ kn T (tQ T p) = 36 := fun e => hw ((kn_lit (x := 36) (by decide) rfl).mp e)
        refine bad 1 (by decide) (fun i c σ hi hs q q13 => ?_) (fun σ q => ?_)
        · obtain ⟨a, e, f, g⟩ := s_failB (G := G) (d := d + 10) q (x := 1) (c := 1) rfl (by decide)
          refine ⟨a, ?_, f, g⟩
          rw [cT i c σ hi hs q q13, if_neg hw, e, pCV]
        · obtain ⟨a, e, f, g⟩ := s_wrong (G := G) (d := d2 + 4) q (x := 1) (c := 1) rfl (by decide) (by decide)
          have g : RS a T (1, p) := g
          have n1 : ¬ ((1, p) : Nat × Nat).1 = 0 := (by decide : ¬ (1 : Nat) = 0)
          have hkn' : ¬ kn T (tQ T (0, p).2) = 36 := hkn
          by_cases h6 : Int32.ofNat s.1 = 60
          · obtain ⟨b, e2, f2, g2⟩ := s_wrong (G := G) (d := d2 + 4) g (x := 2) (c := 2) rfl (by decide) (by decide)
            have g2 : RS b T (1, p) := g2
            refine ⟨b, ?_, ⟨f.1.trans f2.1, fun k hk => (f2.2 k hk).trans (f.2 k hk)⟩, g2⟩
            rw [e_Md_readsSheet, s_known (d := d2 + 2) q, pCI, if_neg hkn', e, pCV, if_pos h6, e2, pCV, s_good (d := d2 + 4) g2, pCI, pB0, if_neg n1]
          · refine ⟨a, ?_, f, g⟩
            rw [e_Md_readsSheet, s_known (d := d2 + 2) q, pCI, if_neg hkn', e, pCV, if_neg h6, s_good (d := d2 + 4) g, pCI, pB0, if_neg n1]
end PSLoop
