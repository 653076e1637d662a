/-! ===== at, falls ===== -/
section PAt
variable {G : Nat × (Nat → Int32)} {d : Nat} {σ : aH} {m : St}
def seatF (far late : Int32) (j : Nat) : Int32 := if j = 0 then far else if j = 1 then late else if j = 5 then 60 else 0
def atH (h : Ho) (p l : Nat) (far late : Int32) : Nat → Int32 := mkH (hP h) (seatF far late) (hL h) p 0 l
theorem atH_r {h : Ho} (hk : Hok h) {p l : Nat} (hp : p < hn h 0) (hl : l < hn h 2) {far late : Int32} (hf : pBd far 0 999) (ht : pBd late 0 2000) : pHr (atH h p l far late) := pHr_of (hk.2.1 p hp) (⟨hf, ht, Or.inl rfl, Or.inl rfl, Or.inl rfl, (⟨by decide, by decide⟩ : pBd 60 0 600)⟩ : okS (seatF far late) 0) (hk.2.2.2.1 l hl)
/-- a law and a person are taken -/
theorem s_takeLP (q : cHo σ m.1) (ho : okAll m) {l p : Nat} (hl : l < hn m.1 2) (hp : p < hn m.1 0) : ∃ σ1 σ2, Rn G (d + 3) 159 [.ref 24, .ref 3, .int (Int32.ofNat l)] σ = oV σ1 ∧ Rn G (d + 3) 160 [.ref 24, .ref 3, .int (Int32.ofNat p)] σ1 = oV σ2 ∧ pSame [24] σ σ2 ∧ pHcP σ2 p (hP m.1) ∧ pHcL σ2 l (hL m.1) := by
  obtain ⟨k0, k1, k2, _⟩ := ho.1.1
  obtain ⟨σ1, r1, f1, g1, _⟩ := s_takeLaw (G := G) (d := d) (σ := σ) (l := l) (by omega)
  obtain ⟨σ2, r2, f2, g2, h2⟩ := s_takePerson (G := G) (d := d) (σ := σ1) (p := p) (by omega)
  refine ⟨σ1, σ2, r1, r2, f1.trans f2, ?_, ?_⟩
  · intro k hk
    rw [g2 k hk]
    show σ1.1 5 (6 * p + k) = _
    rw [f1.at (by decide), q.2.1 p hp k hk]
  · obtain ⟨a, b, c, e⟩ := g1
    have t0 := q.2.2.2.1 l hl 0 (by decide)
    have t1 := q.2.2.2.1 l hl 1 (by decide)
    have t3 := q.2.2.2.1 l hl 3 (by decide)
    have t4 := q.2.2.2.1 l hl 4 (by decide)
    refine ⟨?_, ?_, ?_, ?_⟩
    · rw [h2 12 (by decide), a]
      exact t0
    · rw [h2 13 (by decide), b]
      exact t1
    · rw [h2 14 (by decide), c]
      exact t3
    · rw [h2 15 (by decide), e]
      exact t4
theorem s_heldAt (ho : okAll m) {l p : Nat} (hl : l < hn m.1 2) (hp : p < hn m.1 0) (gP : pHcP σ p (hP m.1)) (gL : pHcL σ l (hL m.1)) {far late : Int32} (hf : pBd far 0 999) (ht : pBd late 0 2000) : ∃ σ', Rn G (d + 5) 286 [.ref 24, .int far, .int late] σ = oI (pHeld (atH m.1 p l far late)) σ' ∧ pSame [24] σ σ' ∧ pHcP σ' p (hP m.1) ∧ pHcL σ' l (hL m.1) := by
  have gP' : pHcP (aSI (aSI (aSI (aSI (aSI (aSI σ 24 6 far) 24 7 late) 24 8 0) 24 9 0) 24 10 0) 24 11 60) p (hP m.1) := by
    intro k hk
    rw [pSI_of (by omega), pSI_of (by omega), pSI_of (by omega), pSI_of (by omega), pSI_of (by omega), pSI_of (by omega)]
    exact gP k hk
  have gL' : pHcL (aSI (aSI (aSI (aSI (aSI (aSI σ 24 6 far) 24 7 late) 24 8 0) 24 9 0) 24 10 0) 24 11 60) l (hL m.1) := by
    obtain ⟨a, b, c, e⟩ := gL
    refine ⟨?_, ?_, ?_, ?_⟩ <;> rw [pSI_of (by decide), pSI_of (by decide), pSI_of (by decide), pSI_of (by decide), pSI_of (by decide), pSI_of (by decide)] <;> assumption
  have gS' : pHcS (aSI (aSI (aSI (aSI (aSI (aSI σ 24 6 far) 24 7 late) 24 8 0) 24 9 0) 24 10 0) 24 11 60) 0 (seatF far late) := by
    intro k hk
    rcases (show k = 0 ∨ k = 1 ∨ k = 2 ∨ k = 3 ∨ k = 4 ∨ k = 5 by omega) with rfl | rfl | rfl | rfl | rfl | rfl
    · rw [pSI_of (by decide), pSI_of (by decide), pSI_of (by decide), pSI_of (by decide), pSI_of (by decide), pSI_at]; rfl
    · rw [pSI_of (by decide), pSI_of (by decide), pSI_of (by decide), pSI_of (by decide), pSI_at]; rfl
    · rw [pSI_of (by decide), pSI_of (by decide), pSI_of (by decide), pSI_at]; rfl
    · rw [pSI_of (by decide), pSI_of (by decide), pSI_at]; rfl
    · rw [pSI_of (by decide), pSI_at]; rfl
    · rw [pSI_at]; rfl
  have g : pHc (aSI (aSI (aSI (aSI (aSI (aSI σ 24 6 far) 24 7 late) 24 8 0) 24 9 0) 24 10 0) 24 11 60) (atH m.1 p l far late) := pHc_of gP' gS' gL'
  have f : pSame [24] σ (aSI (aSI (aSI (aSI (aSI (aSI σ 24 6 far) 24 7 late) 24 8 0) 24 9 0) 24 10 0) 24 11 60) := (((((pSame.rfl'.si (by decide)).si (by decide)).si (by decide)).si (by decide)).si (by decide)).si (by decide)
  rw [e_Rh_Head_heldAt, s_settle g (atH_r ho.1 hp hl hf ht)]
  generalize (aSI (aSI (aSI (aSI (aSI (aSI σ 24 6 far) 24 7 late) 24 8 0) 24 9 0) 24 10 0) 24 11 60) = σu at gP' gL' f
  refine ⟨aSI σu 24 16 (pHeld (atH m.1 p l far late)), ?_, f.si (by decide), ?_, ?_⟩
  · rw [pCV, pSI_at]
  · intro k hk
    rw [pSI_of (by omega)]
    exact gP' k hk
  · obtain ⟨a, b, c, e⟩ := gL'
    refine ⟨?_, ?_, ?_, ?_⟩ <;> rw [pSI_of (by decide)] <;> assumption
theorem s_seats {far late : Int32} : ∃ σ', Rn G (d + 1) 288 [.ref 33, .int far, .int late] σ = oV σ' ∧ pSame [51] σ σ' ∧ ∀ k, k < 6 → σ'.1 51 k = seatF far late k := by
  rw [e_Md_seats]
  obtain ⟨b, ⟨hb1, hb2⟩, e⟩ := pLoopR0 (G := G) (d := d) (M := M_288) (fun i a => (2, [some (.ref 33), some (.int far), some (.int late), some (.int (Int32.ofNat i))], [], a)) (fun i a => pSame [51] σ a ∧ ∀ k, k < i → a.1 51 k = 0) 6 σ ⟨pSame.rfl', fun k hk => absurd hk (Nat.not_lt_zero k)⟩ (by
    intro i a hi ⟨ha1, ha2⟩
    refine ⟨aSI a 51 i 0, ⟨ha1.si (by decide), ?_⟩, ?_⟩
    · intro k hk
      by_cases h : k = i
      · subst h
        exact pSI_at
      · rw [pSI_of h]
        exact ha2 k (by omega)
    · rw [c_Md_seats_2, if_neg (pGoL (c := 6) (n := 6) rfl hi (by decide)), pIx hi (by decide), pN_s])
  refine ⟨aSI (aSI (aSI b 51 0 far) 51 1 late) 51 5 60, ?_, ((hb1.si (by decide)).si (by decide)).si (by decide), ?_⟩
  · refine Eq.trans e ?_
    show Lq G d M_288 (2, [some (.ref 33), some (.int far), some (.int late), some (.int (Int32.ofNat 6))], [], b) = _
    rw [c_Md_seats_2, if_pos (pEndL (c := 6) (n := 6) rfl)]
  · intro k hk
    rcases (show k = 0 ∨ k = 1 ∨ k = 2 ∨ k = 3 ∨ k = 4 ∨ k = 5 by omega) with rfl | rfl | rfl | rfl | rfl | rfl
    · rw [pSI_of (by decide), pSI_of (by decide), pSI_at]; rfl
    · rw [pSI_of (by decide), pSI_at]; rfl
    · rw [pSI_of (by decide), pSI_of (by decide), pSI_of (by decide), hb2 2 (by decide)]; rfl
    · rw [pSI_of (by decide), pSI_of (by decide), pSI_of (by decide), hb2 3 (by decide)]; rfl
    · rw [pSI_of (by decide), pSI_of (by decide), pSI_of (by decide), hb2 4 (by decide)]; rfl
    · rw [pSI_at]; rfl
/-- the reference's seat, and what is held in it -/
theorem s_heldSeat (q : rHo σ m.1) (ho : okAll m) {l p : Nat} (hl : l < hn m.1 2) (hp : p < hn m.1 0) (g50 : ∀ k, k < 6 → σ.1 50 k = hP m.1 (6 * p + k)) {far late : Int32} (hf : pBd far 0 999) (ht : pBd late 0 2000) : ∃ σ', Rn G (d + 4) 288 [.ref 33, .int far, .int late] σ = oV σ' ∧ Rn G (d + 4) 179 [.ref 33, .int (Int32.ofNat l)] σ' = oI (pHeld (atH m.1 p l far late)) σ' ∧ pSame [51] σ σ' := by
  obtain ⟨k0, k1, k2, _⟩ := ho.1.1
  obtain ⟨σ1, r1, f1, g1⟩ := s_seats (G := G) (d := d + 3) (σ := σ) (far := far) (late := late)
  have g : pHm σ1 l (atH m.1 p l far late) := pHm_of (fun k hk => by rw [f1.at (by decide), g50 k hk]) (fun k hk => by rw [g1 k hk, Nat.mul_zero, Nat.zero_add]) (fun k hk => by rw [f1.at (by decide), q.2.2.2.1 l hl k hk])
  exact ⟨σ1, r1, s_heldBy (show l < 6 by omega) g (atH_r ho.1 hp hl hf ht), f1⟩
theorem a_at (ho : okAll m) (x y z w : Int32) : Ask G 285 287 [.int x, .int y, .int z, .int w] [(0, 1), (1, 2)] m := by
  have hk := ho.1
  obtain ⟨k0, k1, k2, _⟩ := hk.1
  rcases rngI (x := x) (n := hn m.1 2) (by omega) with ⟨l, hl, rfl⟩ | hx
  · rcases rngI (x := y) (n := hn m.1 0) (by omega) with ⟨p, hp, rfl⟩ | hy
    · rcases rngI (x := z) (n := 1000) (by decide) with ⟨far, hf, ez⟩ | hz
      · have z0 : ¬ z < 0 := by rw [ez]; exact pN_n0 (by omega)
        have z9 : ¬ 999 < z := by rw [ez]; exact pLB (c := 999) (b := 999) rfl (by omega) (by decide)
        have bz : pBd z 0 999 := ⟨by rw [ez, pN_int (by omega)]; omega, by rw [ez, pN_int (by omega)]; omega⟩
        rcases rngI (x := w) (n := 2001) (by decide) with ⟨late, ht, ew⟩ | hw
        · have w0 : ¬ w < 0 := by rw [ew]; exact pN_n0 (by omega)
          have w9 : ¬ 2000 < w := by rw [ew]; exact pLB (c := 2000) (b := 2000) rfl (by omega) (by decide)
          have bw : pBd w 0 2000 := ⟨by rw [ew, pN_int (by omega)]; omega, by rw [ew, pN_int (by omega)]; omega⟩
          refine Or.inl ⟨pHeld (atH m.1 p l z w), fun σ I => ?_, fun σ I => ?_⟩
          · obtain ⟨_, ⟨q, _⟩, _⟩ := I
            obtain ⟨σ1, σ2, r1, r2, f2, gP, gL⟩ := s_takeLP (G := G) (d := 56) q ho hl hp
            obtain ⟨σ3, r3, f3, _⟩ := s_heldAt (G := G) (d := 54) ho hl hp gP gL bz bw
            refine cOkS (σ' := σ3) ?_ (f2.trans f3) (by decide)
            rw [e_Rh_at, s_hasN (x1 := 2) (k := 2) rfl (by decide) (q.1 2 (by decide)) (by omega) (by omega), pCI, pB0, if_pos hl, s_hasN (x1 := 0) (k := 0) rfl (by decide) (q.1 0 (by decide)) (by omega) (by omega), pCI, pB0, if_pos hp, s_demand1, pXV, if_neg z0, if_neg z9, if_neg w0, if_neg w9, s_allow1, pXV, r1, pCV, r2, pCV, r3, pCI]
          · have b0 := I.2.2.k (K.rfl'.s33 (j := 0) (x := 0) (by decide))
            obtain ⟨_, _, ⟨q, _⟩⟩ := I
            have e1 : σ.1 33 1 = Int32.ofNat (hn m.1 0) := q.1 0 (by decide)
            have e3 : σ.1 33 3 = Int32.ofNat (hn m.1 2) := q.1 2 (by decide)
            obtain ⟨b, ⟨hb1, hb2⟩, e⟩ := pLoopR0 (G := G) (d := 59) (M := M_287) (fun i a => (83, [some (.ref 33), some (.int (Int32.ofNat l)), some (.int (Int32.ofNat p)), some (.int z), some (.int w), some (.int (Int32.ofNat i))], [], a)) (fun i a => pSame [50] (aSI σ 33 0 0) a ∧ ∀ k, k < i → a.1 50 k = hP m.1 (6 * p + k)) 6 (aSI σ 33 0 0) ⟨pSame.rfl', fun k hk => absurd hk (Nat.not_lt_zero k)⟩ (by
              intro i a hi ⟨ha1, ha2⟩
              have qa := b0.1.ps ha1 (by decide)
              refine ⟨aSI a 50 i (hP m.1 (6 * p + i)), ⟨ha1.si (by decide), ?_⟩, ?_⟩
              · intro k hk
                by_cases h : k = i
                · subst h
                  exact pSI_at
                · rw [pSI_of h]
                  exact ha2 k (by omega)
              · rw [c_Md_at_83, if_neg (pGoL (c := 6) (n := 6) rfl hi (by decide)), pM6, pA, pIx (by omega) (by decide), pIx hi (by decide), qa.2.1 p hp i hi, pN_s])
            obtain ⟨σ3, r3, r4, f3⟩ := s_heldSeat (G := G) (d := 55) (b0.1.ps hb1 (by decide)) ho hl hp hb2 bz bw
            have f : rS σ σ3 := (rS.rfl'.s33 (j := 0) (x := 0) (by decide)).trans (rS.of ((hb1.mono (by decide)).trans (f3.mono (by decide)) : pSame [50, 51] (aSI σ 33 0 0) σ3) (by decide))
            refine rOkS (σ' := σ3) ?_ f (by rw [f3.at (by decide), hb1.at (by decide), pSI_at])
            rw [e_Md_at, if_neg (pN_n0 (by omega)), e3, if_neg (pGo hl (by omega)), if_neg (pN_n0 (by omega)), e1, if_neg (pGo hp (by omega)), s_r1, pCI, if_neg (by decide), s_within, pCI, pB0, if_pos ⟨pNotLt.mp z0, pNotLt.mp z9⟩, s_within, pCI, pB0, if_pos ⟨pNotLt.mp w0, pNotLt.mp w9⟩, s_right1 pSI_at, pCI, if_neg (by decide)]
            refine Eq.trans e ?_
            show Lq G 59 M_287 (83, [some (.ref 33), some (.int (Int32.ofNat l)), some (.int (Int32.ofNat p)), some (.int z), some (.int w), some (.int (Int32.ofNat 6))], [], b) = _
            rw [c_Md_at_83, if_pos (pEndL (c := 6) (n := 6) rfl), r3, pCV, r4, pCI]
        · refine Or.inr ⟨(1, 2), by decide, fun σ I => cExI ?_, fun σ I => rExI (v := 0) ?_⟩
          · obtain ⟨_, ⟨q, _⟩, _⟩ := I
            rw [e_Rh_at, s_hasN (x1 := 2) (k := 2) rfl (by decide) (q.1 2 (by decide)) (by omega) (by omega), pCI, pB0, if_pos hl, s_hasN (x1 := 0) (k := 0) rfl (by decide) (q.1 0 (by decide)) (by omega) (by omega), pCI, pB0, if_pos hp, s_demand1, pXV, if_neg z0, if_neg z9, s_allow0, pXVt]
            by_cases h0 : w < 0
            · rw [if_pos h0]
            · rw [if_neg h0, if_pos (pBad (c := 2000) (b := 2000) rfl (by decide) (hw.resolve_left h0))]
          · obtain ⟨_, _, ⟨q, _⟩⟩ := I
            have e1 : σ.1 33 1 = Int32.ofNat (hn m.1 0) := q.1 0 (by decide)
            have e3 : σ.1 33 3 = Int32.ofNat (hn m.1 2) := q.1 2 (by decide)
            rw [e_Md_at, if_neg (pN_n0 (by omega)), e3, if_neg (pGo hl (by omega)), if_neg (pN_n0 (by omega)), e1, if_neg (pGo hp (by omega)), s_r1, pCI, if_neg (by decide), s_within, pCI, pB0, if_pos ⟨pNotLt.mp z0, pNotLt.mp z9⟩, s_within, pCI, pB0, if_neg (pOut (c := 2000) (b := 2000) rfl (by decide) hw), s_r0 (by decide), pCI, if_pos rfl]
      · refine Or.inr ⟨(1, 2), by decide, fun σ I => cExI ?_, fun σ I => rExI (v := 0) ?_⟩
        · obtain ⟨_, ⟨q, _⟩, _⟩ := I
          rw [e_Rh_at, s_hasN (x1 := 2) (k := 2) rfl (by decide) (q.1 2 (by decide)) (by omega) (by omega), pCI, pB0, if_pos hl, s_hasN (x1 := 0) (k := 0) rfl (by decide) (q.1 0 (by decide)) (by omega) (by omega), pCI, pB0, if_pos hp, s_demand1, pXV, s_allow0, pXVt]
          by_cases h0 : z < 0
          · rw [if_pos h0]
          · rw [if_neg h0, if_pos (pBad (c := 999) (b := 999) rfl (by decide) (hz.resolve_left h0))]
        · obtain ⟨_, _, ⟨q, _⟩⟩ := I
          have e1 : σ.1 33 1 = Int32.ofNat (hn m.1 0) := q.1 0 (by decide)
          have e3 : σ.1 33 3 = Int32.ofNat (hn m.1 2) := q.1 2 (by decide)
          rw [e_Md_at, if_neg (pN_n0 (by omega)), e3, if_neg (pGo hl (by omega)), if_neg (pN_n0 (by omega)), e1, if_neg (pGo hp (by omega)), s_r1, pCI, if_neg (by decide), s_within, pCI, pB0, if_neg (pOut (c := 999) (b := 999) rfl (by decide) hz), s_r0 (by decide), pCI, if_pos rfl]
    · refine Or.inr ⟨(0, 1), by decide, fun σ I => cExI ?_, fun σ I => rExI (v := 0) ?_⟩
      · obtain ⟨_, ⟨q, _⟩, _⟩ := I
        rw [e_Rh_at, s_hasN (x1 := 2) (k := 2) rfl (by decide) (q.1 2 (by decide)) (by omega) (by omega), pCI, pB0, if_pos hl, s_hasO (x1 := 0) (k := 0) rfl (by decide) (q.1 0 (by decide)) hy, pCI, if_pos rfl, s_demand0, pXVt]
      · obtain ⟨_, _, ⟨q, _⟩⟩ := I
        have e1 : σ.1 33 1 = Int32.ofNat (hn m.1 0) := q.1 0 (by decide)
        have e3 : σ.1 33 3 = Int32.ofNat (hn m.1 2) := q.1 2 (by decide)
        rw [e_Md_at, if_neg (pN_n0 (by omega)), e3, if_neg (pGo hl (by omega)), e1, s_r0 (by decide), pCI, if_pos rfl]
        by_cases h0 : y < 0
        · rw [if_pos h0]
        · rw [if_neg h0, if_pos (hy.resolve_left h0)]
  · refine Or.inr ⟨(0, 1), by decide, fun σ I => cExI ?_, fun σ I => rExI (v := 0) ?_⟩
    · obtain ⟨_, ⟨q, _⟩, _⟩ := I
      rw [e_Rh_at, s_hasO (x1 := 2) (k := 2) rfl (by decide) (q.1 2 (by decide)) hx, pCI, if_pos rfl, s_demand0, pXVt]
    · obtain ⟨_, _, ⟨q, _⟩⟩ := I
      have e3 : σ.1 33 3 = Int32.ofNat (hn m.1 2) := q.1 2 (by decide)
      rw [e_Md_at, e3, s_r0 (by decide), pCI, if_pos rfl]
      by_cases h0 : x < 0
      · rw [if_pos h0]
      · rw [if_neg h0, if_pos (hx.resolve_left h0)]
/-! falls -/
def mFall (f : Int32 → Int32) (st : Nat) : Nat → Nat → Int32
  | 0, _ => -1
  | k + 1, i => if 500000 ≤ f (Int32.ofNat (st * i)) then mFall f st k (i + 1) else Int32.ofNat (st * i)
theorem mFall_succ (f : Int32 → Int32) (st k i : Nat) : mFall f st (k + 1) i = if 500000 ≤ f (Int32.ofNat (st * i)) then mFall f st k (i + 1) else Int32.ofNat (st * i) := rfl
theorem bdN {n : Nat} {B : Int} (h : (n : Int) ≤ B) (hB : B < 2147483648) : pBd (Int32.ofNat n) 0 B := ⟨by rw [pN_int (by omega)]; omega, by rw [pN_int (by omega)]; omega⟩
theorem bd0 {B : Int} (h : 0 ≤ B) : pBd 0 0 B := ⟨(by decide : (0 : Int) ≤ (0 : Int32).toInt), (by show (0 : Int) ≤ B; exact h)⟩
theorem s_byFar (ho : okAll m) {l p : Nat} (hl : l < hn m.1 2) (hp : p < hn m.1 0) : ∀ (k i : Nat) (σ : aH), i + k = 1000 → pHcP σ p (hP m.1) → pHcL σ l (hL m.1) → ∃ σ', Lq G (d + 5) M_291 (2, [some (.ref 0), some (.int (Int32.ofNat (1 * i)))], [], σ) = oI (mFall (fun v => pHeld (atH m.1 p l v 0)) 1 k i) σ' ∧ pSame [24] σ σ'
  | 0, i, σ, hi, _, _ => by
    have hi : i = 1000 := hi
    refine ⟨σ, ?_, pSame.rfl'⟩
    rw [c_Rh_fallsByFar_2, hi, if_pos (by decide)]
    rfl
  | k + 1, i, σ, hi, gP, gL => by
    obtain ⟨σ1, r1, f1, gP1, gL1⟩ := s_heldAt (G := G) (d := d) ho hl hp gP gL (far := Int32.ofNat (1 * i)) (late := 0) (bdN (by omega) (by decide)) (bd0 (by decide))
    obtain ⟨σ2, r2, f2⟩ := s_byFar ho hl hp k (i + 1) σ1 (by omega) gP1 gL1
    rw [c_Rh_fallsByFar_2, if_neg (pLB (c := 999) (b := 999) rfl (by omega) (by decide)), r1, pCI, mFall_succ]
    by_cases h : 500000 ≤ pHeld (atH m.1 p l (Int32.ofNat (1 * i)) 0)
    · rw [if_pos h, if_pos h, pN_s]
      exact ⟨σ2, r2, f1.trans f2⟩
    · rw [if_neg h, if_neg h]
      exact ⟨σ1, rfl, f1⟩
theorem s_byLate (ho : okAll m) {l p : Nat} (hl : l < hn m.1 2) (hp : p < hn m.1 0) {far : Int32} (hf : pBd far 0 999) : ∀ (k i : Nat) (σ : aH), i + k = 201 → pHcP σ p (hP m.1) → pHcL σ l (hL m.1) → ∃ σ', Lq G (d + 5) M_292 (2, [some (.ref 0), some (.int far), some (.int (Int32.ofNat (10 * i)))], [], σ) = oI (mFall (fun v => pHeld (atH m.1 p l far v)) 10 k i) σ' ∧ pSame [24] σ σ'
  | 0, i, σ, hi, _, _ => by
    have hi : i = 201 := hi
    refine ⟨σ, ?_, pSame.rfl'⟩
    rw [c_Rh_fallsByLate_2, hi, if_pos (by decide)]
    rfl
  | k + 1, i, σ, hi, gP, gL => by
    obtain ⟨σ1, r1, f1, gP1, gL1⟩ := s_heldAt (G := G) (d := d) ho hl hp gP gL (far := far) (late := Int32.ofNat (10 * i)) hf (bdN (by omega) (by decide))
    obtain ⟨σ2, r2, f2⟩ := s_byLate ho hl hp hf k (i + 1) σ1 (by omega) gP1 gL1
    rw [c_Rh_fallsByLate_2, if_neg (pLB (c := 2000) (b := 2000) rfl (by omega) (by decide)), r1, pCI, mFall_succ]
    by_cases h : 500000 ≤ pHeld (atH m.1 p l far (Int32.ofNat (10 * i)))
    · rw [if_pos h, if_pos h, pA10]
      exact ⟨σ2, r2, f1.trans f2⟩
    · rw [if_neg h, if_neg h]
      exact ⟨σ1, rfl, f1⟩
theorem s_fallsM0 (ho : okAll m) {l p : Nat} (hl : l < hn m.1 2) (hp : p < hn m.1 0) {x5 : Int32} : ∀ (k i : Nat) (σ : aH), i + k = 1000 → rHo σ m.1 → (∀ k, k < 6 → σ.1 50 k = hP m.1 (6 * p + k)) → ∃ σ', Lq G (d + 4) M_293 (63, [some (.ref 33), some (.int (Int32.ofNat l)), none, none, some (.int 0), some (.int x5), some (.int 999), some (.int (Int32.ofNat (1 * i)))], [], σ) = oI (mFall (fun v => pHeld (atH m.1 p l v 0)) 1 k i) σ' ∧ pSame [51] σ σ'
  | 0, i, σ, hi, _, _ => by
    have hi : i = 1000 := hi
    refine ⟨σ, ?_, pSame.rfl'⟩
    rw [c_Md_falls_63, hi, if_pos (by decide)]
    rfl
  | k + 1, i, σ, hi, q, g50 => by
    obtain ⟨σ1, r1, r1', f1⟩ := s_heldSeat (G := G) (d := d) q ho hl hp g50 (far := Int32.ofNat (1 * i)) (late := 0) (bdN (by omega) (by decide)) (bd0 (by decide))
    obtain ⟨σ2, r2, f2⟩ := s_fallsM0 ho hl hp (x5 := x5) k (i + 1) σ1 (by omega) (q.ps f1 (by decide)) (fun k hk => by rw [f1.at (by decide)]; exact g50 k hk)
    rw [c_Md_falls_63, if_neg (pLB (c := 999) (b := 999) rfl (by omega) (by decide)), if_pos rfl, if_pos rfl, r1, pCV, r1', pCI, mFall_succ]
    by_cases h : 500000 ≤ pHeld (atH m.1 p l (Int32.ofNat (1 * i)) 0)
    · rw [if_pos h, if_pos h, if_pos rfl, pN_s]
      exact ⟨σ2, r2, f1.trans f2⟩
    · rw [if_neg h, if_neg h]
      exact ⟨σ1, rfl, f1⟩
theorem s_fallsM1 (ho : okAll m) {l p : Nat} (hl : l < hn m.1 2) (hp : p < hn m.1 0) {x5 : Int32} (hf : pBd x5 0 999) : ∀ (k i : Nat) (σ : aH), i + k = 201 → rHo σ m.1 → (∀ k, k < 6 → σ.1 50 k = hP m.1 (6 * p + k)) → ∃ σ', Lq G (d + 4) M_293 (63, [some (.ref 33), some (.int (Int32.ofNat l)), none, none, some (.int 1), some (.int x5), some (.int 2000), some (.int (Int32.ofNat (10 * i)))], [], σ) = oI (mFall (fun v => pHeld (atH m.1 p l x5 v)) 10 k i) σ' ∧ pSame [51] σ σ'
  | 0, i, σ, hi, _, _ => by
    have hi : i = 201 := hi
    refine ⟨σ, ?_, pSame.rfl'⟩
    rw [c_Md_falls_63, hi, if_pos (by decide)]
    rfl
  | k + 1, i, σ, hi, q, g50 => by
    obtain ⟨σ1, r1, r1', f1⟩ := s_heldSeat (G := G) (d := d) q ho hl hp g50 (far := x5) (late := Int32.ofNat (10 * i)) hf (bdN (by omega) (by decide))
    obtain ⟨σ2, r2, f2⟩ := s_fallsM1 ho hl hp hf k (i + 1) σ1 (by omega) (q.ps f1 (by decide)) (fun k hk => by rw [f1.at (by decide)]; exact g50 k hk)
    rw [c_Md_falls_63, if_neg (pLB (c := 2000) (b := 2000) rfl (by omega) (by decide)), if_neg (show ¬ (1 : Int32) = 0 by decide), if_neg (show ¬ (1 : Int32) = 0 by decide), r1, pCV, r1', pCI, mFall_succ]
    by_cases h : 500000 ≤ pHeld (atH m.1 p l x5 (Int32.ofNat (10 * i)))
    · rw [if_pos h, if_pos h, if_neg (show ¬ (1 : Int32) = 0 by decide), pA10]
      exact ⟨σ2, r2, f1.trans f2⟩
    · rw [if_neg h, if_neg h]
      exact ⟨σ1, rfl, f1⟩
theorem a_falls (ho : okAll m) (x y z w : Int32) : Ask G 290 293 [.int x, .int y, .int z, .int w] [(0, 1)] m := by
  have hk := ho.1
  by_cases a : ∃ l p s, are m.1 x y z l p s
  · obtain ⟨l, p, s, a⟩ := a
    have hl := a.1
    have hp := a.2.1
    have hs := a.2.2.1
    have hs20 : s < 20 := by have := hk.1.2.1; omega
    have ex : x = Int32.ofNat l := a.2.2.2.1
    have ey : y = Int32.ofNat p := a.2.2.2.2.1
    have ez : z = Int32.ofNat s := a.2.2.2.2.2
    have bf : pBd (hS m.1 (6 * s + 0)) 0 999 := (hk.2.2.1 s hs).1
    by_cases h0 : w = 0
    · subst h0
      refine Or.inl ⟨mFall (fun v => pHeld (atH m.1 p l v 0)) 1 1000 0, fun σ I => ?_, fun σ I => ?_⟩
      · obtain ⟨_, ⟨q, _⟩, _⟩ := I
        obtain ⟨σ1, σ2, r1, r2, f2, gP, gL⟩ := s_takeLP (G := G) (d := 56) q ho hl hp
        obtain ⟨σ3, r3, f3⟩ := s_byFar (G := G) (d := 53) ho hl hp 1000 0 σ2 rfl gP gL
        refine cOkS (σ' := σ3) ?_ (f2.trans f3) (by decide)
        have r3' : Rn G 59 291 [.ref 0] σ2 = oI (mFall (fun v => pHeld (atH m.1 p l v 0)) 1 1000 0) σ3 := (e_Rh_fallsByFar G 58 σ2).trans r3
        rw [e_Rh_falls, s_demandAllOk q hk a, pXV, if_pos rfl, s_demand1, pXV, ex, r1, pCV, ey, r2, pCV, if_pos rfl, r3', pCI]
      · obtain ⟨_, _, ⟨q, _⟩⟩ := I
        obtain ⟨σ1, r1, f1, g0, g1⟩ := s_isHeadOk (G := G) (d := 57) q hk a
        obtain ⟨σ3, r3, f3⟩ := s_fallsM0 (G := G) (d := 55) ho hl hp (x5 := σ1.1 51 0) 1000 0 σ1 rfl (q.rs f1) (fun k hk => by
          rw [g1.1 k hk]
          unfold mkH
          rw [if_pos hk])
        refine rOkS (σ' := σ3) ?_ (f1.trans (rS.of f3 (by decide))) ((congrFun (f3.at (by decide)) 0).trans g0)
        rw [e_Md_falls, r1, pCI, if_neg (by decide), if_pos rfl, s_right1 g0, pCI, if_neg (by decide), if_pos rfl, ex]
        exact r3
    · by_cases h1 : w = 1
      · subst h1
        refine Or.inl ⟨mFall (fun v => pHeld (atH m.1 p l (hS m.1 (6 * s + 0)) v)) 10 201 0, fun σ I => ?_, fun σ I => ?_⟩
        · obtain ⟨_, ⟨q, _⟩, _⟩ := I
          obtain ⟨σ1, σ2, r1, r2, f2, gP, gL⟩ := s_takeLP (G := G) (d := 56) q ho hl hp
          obtain ⟨σ3, r3, f3⟩ := s_byLate (G := G) (d := 53) ho hl hp bf 201 0 σ2 rfl gP gL
          refine cOkS (σ' := σ3) ?_ (f2.trans f3) (by decide)
          have r3' : Rn G 59 292 [.ref 0, .int (hS m.1 (6 * s + 0))] σ2 = oI (mFall (fun v => pHeld (atH m.1 p l (hS m.1 (6 * s + 0)) v)) 10 201 0) σ3 := (e_Rh_fallsByLate G 58 (hS m.1 (6 * s + 0)) σ2).trans r3
          rw [e_Rh_falls, s_demandAllOk q hk a, pXV, if_neg (by decide), if_pos rfl, s_demand1, pXV, ex, r1, pCV, ey, r2, pCV, if_neg (by decide), ez, s_toldS (i := s) (w := 0) (x3 := 0) rfl rfl hs20 (by decide), pCI, (q.ps f2 (by decide) (by decide) (by decide)).2.2.1 s hs 0 (by decide), r3', pCI]
        · obtain ⟨_, _, ⟨q, _⟩⟩ := I
          obtain ⟨σ1, r1, f1, g0, g1⟩ := s_isHeadOk (G := G) (d := 57) q hk a
          have e0 : σ1.1 51 0 = hS m.1 (6 * s + 0) := g1.2.1 0 (by decide)
          obtain ⟨σ3, r3, f3⟩ := s_fallsM1 (G := G) (d := 55) ho hl hp bf 201 0 σ1 rfl (q.rs f1) (fun k hk => by
            rw [g1.1 k hk]
            unfold mkH
            rw [if_pos hk])
          refine rOkS (σ' := σ3) ?_ (f1.trans (rS.of f3 (by decide))) ((congrFun (f3.at (by decide)) 0).trans g0)
          rw [e_Md_falls, r1, pCI, if_neg (by decide), if_neg (by decide), if_pos rfl, s_right1 g0, pCI, if_neg (by decide), if_neg (by decide), ex, e0]
          exact r3
      · refine Or.inr ⟨(0, 1), by decide, fun σ I => cExI ?_, fun σ I => ?_⟩
        · obtain ⟨_, ⟨q, _⟩, _⟩ := I
          rw [e_Rh_falls, s_demandAllOk q hk a, pXV, if_neg h0, if_neg h1, s_demand0, pXVt]
        · obtain ⟨_, _, ⟨q, _⟩⟩ := I
          obtain ⟨σ1, r1, f1, g0, g1⟩ := s_isHeadOk (G := G) (d := 57) q hk a
          refine rExS (v := 0) (σ' := aSI σ1 33 0 1) ?_ (f1.s33 (by decide)) pSI_at
          rw [e_Md_falls, r1, pCI, if_neg (by decide), if_neg h0, if_neg h1, s_right0 g0 (by decide), pCI, if_pos rfl]
  · refine Or.inr ⟨(0, 1), by decide, fun σ I => cExI ?_, fun σ I => rExI (v := 0) ?_⟩
    · obtain ⟨_, ⟨q, _⟩, _⟩ := I
      rw [e_Rh_falls, s_demandAllNo q hk a, pXVt]
    · obtain ⟨_, _, ⟨q, _⟩⟩ := I
      rw [e_Md_falls, s_isHeadNo q hk a, pCI, if_pos rfl]
end PAt
