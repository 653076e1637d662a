/-! ===== the answers of a sheet, on both sides ===== -/
def rwC (σ : aH) (k : Nat) (R : Nat → Int32) : Prop := ∀ c, c < 18 → σ.1 14 (18 * k + c) = R c
def rwM (σ : aH) (k : Nat) (R : Nat → Int32) : Prop := ∀ j, j < 15 → σ.1 40 (17 * k + j) = R j
def otC (k : Nat) (σ σ' : aH) : Prop := ∀ j, j < 18 * k → σ'.1 14 j = σ.1 14 j
def otM (k : Nat) (σ σ' : aH) : Prop := ∀ j, (j < 17 * k ∨ 17 * k + 15 ≤ j) → σ'.1 40 j = σ.1 40 j
section PAns
variable {G : Nat × (Nat → Int32)} {d d2 : Nat} {T : Tx} {nl k : Nat}
theorem s_setC {σ : aH} {c : Nat} {x : Int32} (hk : k < 60) (hc : c < 18) : Rn G (d + 2) 101 [.ref 13, .int (Int32.ofNat k), .int (Int32.ofNat c), .int x] σ = oV (aSI σ 14 (18 * k + c) x) := by
  rw [e_Rh_Sheets_set, s_put (r := 14) (n := 1080) (i := 18 * k + c) rfl (by rw [show (18 : Int32) = Int32.ofNat 18 from rfl, pMulN, pA, Nat.mul_comm]) (by omega) (by decide), pCV]
def anO (G : Nat × (Nat → Int32)) (d d2 : Nat) (T : Tx) (nl k i p : Nat) (R : Nat → Int32) (s' : Nat × Nat) (R' : Nat → Int32) : Prop := (∀ σ, CS σ T (0, p) → rwC σ k R → σ.1 4 3 = Int32.ofNat nl → ∃ b, Lq G (d + 9) M_102 (3, [some (.ref 1), some (.ref 3), some (.ref 13), some (.int (Int32.ofNat k)), some (.int (Int32.ofNat i)), none], [], σ) = oV b ∧ pSame [1, 14] σ b ∧ CS b T s' ∧ otC k σ b ∧ (s'.1 = 0 → rwC b k R')) ∧ (∀ σ, RS σ T (0, p) → rwM σ k R → σ.1 33 4 = Int32.ofNat nl → ∃ b j, Lq G (d2 + 5) M_107 (119, [some (.ref 33), some (.int (Int32.ofNat k)), some (.int (Int32.ofNat i)), none], [], σ) = Lq G (d2 + 5) M_107 (119, [some (.ref 33), some (.int (Int32.ofNat k)), some (.int (Int32.ofNat j)), none], [], b) ∧ pSame [33, 40] σ b ∧ (∀ x, x < 16 ∨ x = 18 ∨ 25 < x → b.1 33 x = σ.1 33 x) ∧ RS b T s' ∧ otM k σ b ∧ (s'.1 = 0 → rwM b k R')) ∧ fwd T (0, p) s' ∧ (s'.1 = 0 → tK T s'.2 ≠ 2) ∧ (s'.1 = 0 → (∀ c, c < 12 → pBd (R' c) (-3) 3) ∧ ∀ c, 12 ≤ c → R' c = R c)
theorem answers (hk : k < 60) (hnl : nl ≤ 12) : ∀ (n i p : Nat) (R : Nat → Int32), nl + 1 - i ≤ n → i ≤ nl → p ≤ T.1 → (∀ c, c < 12 → pBd (R c) (-3) 3) → ∃ s' R', anO G d d2 T nl k i p R s' R' := by
  intro n
  induction n with
  | zero => intro i p R h1 h2; omega
  | succ n ih =>
    intro i p R hn hi hp hR
    by_cases k2 : tK T p = 2
    · have c12 : ¬ (12 : Int32) < Int32.ofNat i := pLB (c := 12) (b := 12) rfl (by omega) (by decide)
      have le := tE_le hp
      by_cases hbad : tN T p ≤ 6 ∧ ¬ i < nl
      · -- no such line
        refine ⟨(4, p), R, fun σ q row e43 => ?_, fun σ q row e4 => ?_, fun _ h => absurd (show (4 : Nat) = 0 from h) (by decide), fun h => absurd (show (4 : Nat) = 0 from h) (by decide), fun h => absurd (show (4 : Nat) = 0 from h) (by decide)⟩
        · have e14 : σ.1 1 4 = Int32.ofNat (tK T p) := q.2.2.2.2.2.1
          have e15 : σ.1 1 5 = tN T p := q.2.2.2.2.2.2.2 k2
          obtain ⟨a, e1, f1, g1⟩ := s_failB (G := G) (d := d + 8) q (x := 4) (c := 4) rfl (by decide)
          obtain ⟨v, b, e2, f2, g2, _⟩ := s_takeNum (G := G) (d := d + 1) g1 0 6
          rw [mNumS_b (show ¬ ((4, p) : Nat × Nat).1 = 0 from (by decide : ¬ (4 : Nat) = 0))] at g2
          have nz : ¬ b.1 1 2 = 0 := fun e => absurd (g2.z.mp e) (by decide : ¬ (4 : Nat) = 0)
          refine ⟨b, ?_, (f1.trans f2).mono (by decide), g2, fun j _ => by rw [f2.at (by decide), f1.at (by decide)], fun h => absurd (show (4 : Nat) = 0 from h) (by decide)⟩
          rw [c_Rh_SheetReader_readAnswers_3, if_neg c12, if_pos (q.z.mpr rfl), e14, if_pos (by rw [k2]; rfl), e15, if_neg (pNotLt.mpr hbad.1), s_hasN (x1 := 3) (k := 3) (d := d + 7) rfl (by decide) e43 (by omega) (by omega), pCI, if_neg hbad.2, if_pos rfl, e1, pCV, e2, pCI, if_neg nz, pN_s, c_Rh_SheetReader_readAnswers_3]
          by_cases h13 : (12 : Int32) < Int32.ofNat (i + 1)
          · rw [if_pos h13]
          · rw [if_neg h13, if_neg nz]
        · have e20 : σ.1 33 20 = Int32.ofNat (tK T p) := q.2.2.2.2.2.2.1
          have e22 : σ.1 33 22 = Int32.ofNat (tEq T (tQ T p) - tQ T p) := q.2.2.2.2.2.2.2.2.1
          have lQ := tQ_le hp
          have lE := tEq_le lQ.2
          have q2 := q.1.2.1
          have h4 : tEq T (tQ T p) - tQ T p ≤ 4 := (tN_nat k2).2.mp (by
            have := hbad.1
            rw [pLe] at this ⊢
            have e6 : (6 : Int32).toInt = 6 := rfl
            have e9 : (9999 : Int32).toInt = 9999 := rfl
            omega)
          have e23 : σ.1 33 23 = tN T p := q.2.2.2.2.2.2.2.2.2.2.1 k2 h4
          obtain ⟨a, e1, f1, g1⟩ := s_wrong (G := G) (d := d2 + 4) q (x := 4) (c := 4) rfl (by decide) (by decide)
          have g1 : RS a T (4, p) := g1
          obtain ⟨v, b, e2, f2, g2, _⟩ := s_number (G := G) (d := d2 + 2) (lo := 0) (hi := 6) g1 (by decide)
          have n4 : ¬ ((4, p) : Nat × Nat).1 = 0 := (by decide : ¬ (4 : Nat) = 0)
          rw [mNumS_b n4] at g2
          refine ⟨b, i + 1, ?_, (f1.1.trans f2.1).mono (by decide), fun x hx => (f2.2 x (by omega)).trans (f1.2 x (by omega)), g2, fun j _ => by rw [f2.1.at (by decide), f1.1.at (by decide)], fun h => absurd (show (4 : Nat) = 0 from h) (by decide)⟩
          rw [c_Md_readsSheet_119, s_good (d := d2 + 4) q, pCI, pB0, if_pos rfl, e20, if_pos (by rw [k2]; rfl), e22, if_neg (fun h : (4 : Int32) < Int32.ofNat (tEq T (tQ T p) - tQ T p) => absurd ((pN_lt (a := 4) (by decide) (by omega)).mp h) (by omega)), e23, if_neg (pNotLt.mpr hbad.1), e4, if_neg (fun h => hbad.2 ((pN_lt (by omega) (by omega)).mp h)), e1, pCV, e2, pCI, s_good (d := d2 + 4) g2, pCI, pB0, if_neg n4, pN_s]
      · have lQ := tQ_le hp
        have lE := tEq_le lQ.2
        by_cases h6 : tN T p ≤ 6
        · -- an answer
          have hil : i < nl := by
            by_cases h : i < nl
            · exact h
            · exact absurd ⟨h6, h⟩ hbad
          have h4 : tEq T (tQ T p) - tQ T p ≤ 4 := (tN_nat k2).2.mp (by
            rw [pLe] at h6 ⊢
            have e6 : (6 : Int32).toInt = 6 := rfl
            have e9 : (9999 : Int32).toInt = 9999 := rfl
            omega)
          obtain ⟨x, hx, ex⟩ := (tN_nat k2).1 h4
          have n0 : 0 ≤ tN T p := by rw [ex]; exact pN_0 (by omega)
          have em : mNumS T 0 6 (0, p) = (0, tE T p) := ((if_pos rfl).trans (if_pos k2)).trans (if_pos ⟨n0, h6⟩)
          have x6 : x ≤ 6 := by
            rw [ex] at h6
            exact (pN_le (b := 6) (by omega) (by decide)).mp h6
          have bd : pBd (tN T p - 3) (-3) 3 := by
            have e3 : (3 : Int32).toInt = 3 := rfl
            have ei : (tN T p).toInt = x := by rw [ex]; exact pN_int (by omega)
            unfold pBd
            rw [pI_sub (by rw [ei, e3]; omega) (by rw [ei, e3]; omega), ei, e3]
            omega
          have hR' : ∀ c, c < 12 → pBd ((fun c => if c = i then tN T p - 3 else R c) c) (-3) 3 := by
            intro c hc
            show pBd (if c = i then tN T p - 3 else R c) (-3) 3
            by_cases e : c = i
            · rw [if_pos e]
              exact bd
            · rw [if_neg e]
              exact hR c hc
          obtain ⟨s', R', h1, h2, h3, h5, h7⟩ := ih (i + 1) (tE T p) (fun c => if c = i then tN T p - 3 else R c) (by omega) (by omega) le.2.1 hR'
          refine ⟨s', R', fun σ q row e43 => ?_, fun σ q row e4 => ?_, fun a b => ?_, h5, fun hz => ⟨(h7 hz).1, fun c hc => ((h7 hz).2 c hc).trans (if_neg (by omega))⟩⟩
          · have e14 : σ.1 1 4 = Int32.ofNat (tK T p) := q.2.2.2.2.2.1
            have e15 : σ.1 1 5 = tN T p := q.2.2.2.2.2.2.2 k2
            obtain ⟨v, a, e2, f2, g2, hv⟩ := s_takeNum (G := G) (d := d + 1) q 0 6
            rw [em] at g2 hv
            have hv : v = tN T p := hv rfl
            have g3 : CS (aSI a 14 (18 * k + i) (v - 3)) T (0, tE T p) := CS.ps (os := [14]) g2 (pSame.rfl'.si (by decide)) (by decide) (by decide)
            obtain ⟨b, e, f, g, o, r⟩ := h1 _ g3 (fun c hc => by
              show (aSI a 14 (18 * k + i) (v - 3)).1 14 (18 * k + c) = if c = i then tN T p - 3 else R c
              by_cases ec : c = i
              · rw [if_pos ec, ec, pSI_at, hv]
              · rw [if_neg ec, pSI_of (by omega), f2.at (by decide), row c hc]) (by rw [pSI_ne (by decide), f2.at (by decide), e43])
            refine ⟨b, ?_, ((f2.mono (by decide)).si (by decide)).trans f, g, fun j hj => by rw [o j hj, pSI_of (by omega), f2.at (by decide)], r⟩
            rw [c_Rh_SheetReader_readAnswers_3, if_neg c12, if_pos (q.z.mpr rfl), e14, if_pos (by rw [k2]; rfl), e15, if_neg (pNotLt.mpr h6), s_hasN (x1 := 3) (k := 3) (d := d + 7) rfl (by decide) e43 (by omega) (by omega), pCI, if_pos hil, if_neg (by decide), e2, pCI, if_pos (g2.z.mpr rfl), s_setC (d := d + 7) hk (by omega), pCV, pN_s]
            exact e
          · have e20 : σ.1 33 20 = Int32.ofNat (tK T p) := q.2.2.2.2.2.2.1
            have e22 : σ.1 33 22 = Int32.ofNat (tEq T (tQ T p) - tQ T p) := q.2.2.2.2.2.2.2.2.1
            have q2 := q.1.2.1
            have e23 : σ.1 33 23 = tN T p := q.2.2.2.2.2.2.2.2.2.2.1 k2 h4
            obtain ⟨v, a, e2, f2, g2, hv⟩ := s_number (G := G) (d := d2 + 2) (lo := 0) (hi := 6) q (by decide)
            rw [em] at g2 hv
            have hv : v = tN T p := hv rfl
            have g3 : RS (aSI a 40 (17 * k + i) (v - 3)) T (0, tE T p) := RS.ps (os := [40]) g2 (pSame.rfl'.si (by decide)) (by decide) (by decide)
            obtain ⟨b, j, e, f, fx, g, o, r⟩ := h2 _ g3 (fun c hc => by
              show (aSI a 40 (17 * k + i) (v - 3)).1 40 (17 * k + c) = if c = i then tN T p - 3 else R c
              by_cases ec : c = i
              · rw [if_pos ec, ec, pSI_at, hv]
              · rw [if_neg ec, pSI_of (by omega), f2.1.at (by decide), row c hc]) (by rw [pSI_ne (by decide), f2.2 4 (by omega), e4])
            refine ⟨b, j, ?_, ((f2.1.mono (by decide)).si (by decide)).trans f, fun x hx => by rw [fx x hx, pSI_ne (by decide), f2.2 x (by omega)], g, fun j hj => by rw [o j hj, pSI_of (by omega), f2.1.at (by decide)], r⟩
            rw [c_Md_readsSheet_119, s_good (d := d2 + 4) q, pCI, pB0, if_pos rfl, e20, if_pos (by rw [k2]; rfl), e22, if_neg (fun h : (4 : Int32) < Int32.ofNat (tEq T (tQ T p) - tQ T p) => absurd ((pN_lt (a := 4) (by decide) (by omega)).mp h) (by omega)), e23, if_neg (pNotLt.mpr h6), e4, if_pos (pGo' hil (by omega)), e2, pCI, s_good (d := d2 + 4) g2, pCI, pB0, if_pos rfl, pM17, pA, pIx (by omega) (by decide), pN_s]
            exact e
          · have y := h3 le.2.1 b
            have y1 : tE T p ≤ s'.2 := y.1
            exact ⟨by show p ≤ s'.2; omega, y.2⟩
        · -- too great a number
          have em : mNumS T 0 6 (0, p) = (2, p) := ((if_pos rfl).trans (if_pos k2)).trans (if_neg fun h => h6 h.2)
          have n2 : ¬ ((2, p) : Nat × Nat).1 = 0 := (by decide : ¬ (2 : Nat) = 0)
          refine ⟨(2, p), R, fun σ q row e43 => ?_, fun σ q row e4 => ?_, fun _ h => absurd h n2, fun h => absurd h n2, fun h => absurd h n2⟩
          · have e14 : σ.1 1 4 = Int32.ofNat (tK T p) := q.2.2.2.2.2.1
            have e15 : σ.1 1 5 = tN T p := q.2.2.2.2.2.2.2 k2
            obtain ⟨v, b, e2, f2, g2, _⟩ := s_takeNum (G := G) (d := d + 1) q 0 6
            rw [em] at g2
            have nz : ¬ b.1 1 2 = 0 := fun e => n2 (g2.z.mp e)
            refine ⟨b, ?_, f2.mono (by decide), g2, fun j _ => by rw [f2.at (by decide)], fun h => absurd h n2⟩
            rw [c_Rh_SheetReader_readAnswers_3, if_neg c12, if_pos (q.z.mpr rfl), e14, if_pos (by rw [k2]; rfl), e15, if_pos (pNotLe.mp h6), e2, pCI, if_neg nz, pN_s, c_Rh_SheetReader_readAnswers_3]
            by_cases h13 : (12 : Int32) < Int32.ofNat (i + 1)
            · rw [if_pos h13]
            · rw [if_neg h13, if_neg nz]
          · have e20 : σ.1 33 20 = Int32.ofNat (tK T p) := q.2.2.2.2.2.2.1
            have e22 : σ.1 33 22 = Int32.ofNat (tEq T (tQ T p) - tQ T p) := q.2.2.2.2.2.2.2.2.1
            have q2 := q.1.2.1
            obtain ⟨v, b, e2, f2, g2, _⟩ := s_number (G := G) (d := d2 + 2) (lo := 0) (hi := 6) q (by decide)
            rw [em] at g2
            refine ⟨b, i + 1, ?_, f2.1.mono (by decide), fun x hx => f2.2 x (by omega), g2, fun j _ => by rw [f2.1.at (by decide)], fun h => absurd h n2⟩
            rw [c_Md_readsSheet_119, s_good (d := d2 + 4) q, pCI, pB0, if_pos rfl, e20, if_pos (by rw [k2]; rfl), e22]
            by_cases h4 : tEq T (tQ T p) - tQ T p ≤ 4
            · have e23 : σ.1 33 23 = tN T p := q.2.2.2.2.2.2.2.2.2.2.1 k2 h4
              rw [if_neg (fun h : (4 : Int32) < Int32.ofNat (tEq T (tQ T p) - tQ T p) => absurd ((pN_lt (a := 4) (by decide) (by omega)).mp h) (by omega)), e23, if_pos (pNotLe.mp h6), e2, pCI, s_good (d := d2 + 4) g2, pCI, pB0, if_neg n2, pN_s]
            · rw [if_pos (show (4 : Int32) < Int32.ofNat (tEq T (tQ T p) - tQ T p) from (pN_lt (a := 4) (by decide) (by omega)).mpr (by omega)), e2, pCI, s_good (d := d2 + 4) g2, pCI, pB0, if_neg n2, pN_s]
    · refine ⟨(0, p), R, fun σ q row e43 => ?_, fun σ q row e4 => ?_, fwd_id, fun _ => k2, fun _ => ⟨hR, fun _ _ => rfl⟩⟩
      · have c12 : ¬ (12 : Int32) < Int32.ofNat i := pLB (c := 12) (b := 12) rfl (by omega) (by decide)
        have k5 : tK T p < 5 := tKq_lt T (tQ T p)
        have e14 : σ.1 1 4 = Int32.ofNat (tK T p) := q.2.2.2.2.2.1
        refine ⟨σ, ?_, pSame.rfl', q, fun _ _ => rfl, fun _ => row⟩
        rw [c_Rh_SheetReader_readAnswers_3, if_neg c12, if_pos (q.z.mpr rfl), e14, if_neg (fun h => k2 ((pEqL (c := 2) (n := 2) rfl (by decide) (by omega)).mp h))]
      · exact ⟨σ, i, rfl, pSame.rfl', fun _ _ => rfl, q, fun _ _ => rfl, fun _ => row⟩
end PAns
