/-! ===== one sheet, on both sides ===== -/
def anX (G : Nat × (Nat → Int32)) (d d2 : Nat) (T : Tx) (nl k : Nat) (s : Nat × Nat) (R : Nat → Int32) (s' : Nat × Nat) (R' : Nat → Int32) : Prop := (∀ σ, CS σ T s → (s.1 = 0 → rwC σ k R) → σ.1 4 3 = Int32.ofNat nl → ∃ b, Lq G (d + 9) M_102 (3, [some (.ref 1), some (.ref 3), some (.ref 13), some (.int (Int32.ofNat k)), some (.int 0), none], [], σ) = oV b ∧ pSame [1, 14] σ b ∧ CS b T s' ∧ otC k σ b ∧ (s'.1 = 0 → rwC b k R')) ∧ (∀ σ, RS σ T s → (s.1 = 0 → rwM σ k R) → σ.1 33 4 = Int32.ofNat nl → ∃ b, Lq G (d2 + 5) M_107 (119, [some (.ref 33), some (.int (Int32.ofNat k)), some (.int 0), none], [], σ) = tlM0 G (d2 + 5) (Int32.ofNat k) b ∧ pSame [33, 40] σ b ∧ (∀ x, x < 16 ∨ x = 18 ∨ 25 < x → b.1 33 x = σ.1 33 x) ∧ RS b T s' ∧ otM k σ b ∧ (s'.1 = 0 → rwM b k R')) ∧ fwd T s s' ∧ (s'.1 = 0 → s.1 = 0 ∧ (∀ c, c < 12 → pBd (R' c) (-3) 3) ∧ ∀ c, 12 ≤ c → R' c = R c)
section PSheet
variable {G : Nat × (Nat → Int32)} {d d2 : Nat} {T : Tx} {k : Nat}
theorem answersX {nl : Nat} (hk : k < 60) (hnl : nl ≤ 12) (s : Nat × Nat) (R : Nat → Int32) (hp : s.1 = 0 → s.2 ≤ T.1) (hR : ∀ c, c < 12 → pBd (R c) (-3) 3) : ∃ s' R', anX G d d2 T nl k s R s' R' := by
  obtain ⟨c, p⟩ := s
  by_cases hz : c = 0
  · subst hz
    obtain ⟨s', R', h1, h2, h3, h4, h5⟩ := answers (G := G) (d := d) (d2 := d2) (T := T) (nl := nl) (k := k) hk hnl (nl + 1) 0 p R (by omega) (Nat.zero_le _) (hp rfl) hR
    refine ⟨s', R', fun σ q row e => h1 σ q (row rfl) e, fun σ q row e => ?_, h3, fun hz => ⟨rfl, h5 hz⟩⟩
    obtain ⟨b, j, e1, f, fx, g, o, r⟩ := h2 σ q (row rfl) e
    refine ⟨b, Eq.trans e1 ?_, f, fx, g, o, r⟩
    by_cases hs : s'.1 = 0
    · have k5 : tK T s'.2 < 5 := tKq_lt T (tQ T s'.2)
      have e20 : b.1 33 20 = Int32.ofNat (tK T s'.2) := g.2.2.2.2.2.2.1
      exact tlM_end G (d2 + 5) _ b _ (by rw [s_good (d := d2 + 4) g, if_pos hs]) (by rw [e20]; exact fun h => h4 hs ((pEqL (c := 2) (n := 2) rfl (by decide) (by omega)).mp h))
    · exact tlM_bad G (d2 + 5) _ b _ (by rw [s_good (d := d2 + 4) g, if_neg hs])
  · refine ⟨(c, p), R, fun σ q _ _ => ⟨σ, ?_, pSame.rfl', q, fun _ _ => rfl, fun h => absurd h hz⟩, fun σ q _ _ => ⟨σ, ?_, pSame.rfl', fun _ _ => rfl, q, fun _ _ => rfl, fun h => absurd h hz⟩, fwd_id, fun h => absurd h hz⟩
    · have nz : ¬ σ.1 1 2 = 0 := fun e => hz (q.z.mp e)
      rw [c_Rh_SheetReader_readAnswers_3, if_neg (by decide), if_neg nz]
    · exact tlM_bad G (d2 + 5) _ σ _ (by rw [s_good (d := d2 + 4) q, if_neg hz])
def cH3 (σ : aH) (h : Ho) : Prop := σ.1 4 0 = Int32.ofNat (hn h 0) ∧ σ.1 4 1 = Int32.ofNat (hn h 1) ∧ σ.1 4 3 = Int32.ofNat (hn h 3)
def rH3 (σ : aH) (h : Ho) : Prop := σ.1 33 1 = Int32.ofNat (hn h 0) ∧ σ.1 33 2 = Int32.ofNat (hn h 1) ∧ σ.1 33 4 = Int32.ofNat (hn h 3)
def otN (k : Nat) (σ b : aH) : Prop := (∀ j, j < 17 * k → b.1 40 j = σ.1 40 j) ∧ ∀ j, j < k → b.1 53 j = σ.1 53 j ∧ b.1 54 j = σ.1 54 j
theorem cH3.same {σ b : aH} {h : Ho} (q : cH3 σ h) (e : b.1 4 = σ.1 4) : cH3 b h := by
  unfold cH3
  rw [e]
  exact q
theorem rH3.same {σ b : aH} {h : Ho} (q : rH3 σ h) (f : ∀ x, x < 16 ∨ x = 18 ∨ 25 < x → b.1 33 x = σ.1 33 x) : rH3 b h := ⟨(f 1 (by omega)).trans q.1, (f 2 (by omega)).trans q.2.1, (f 4 (by omega)).trans q.2.2⟩
/-- what a sheet makes, on both sides -/
def shO (G : Nat × (Nat → Int32)) (d d2 : Nat) (T : Tx) (h : Ho) (k p : Nat) (s' : Nat × Nat) (R' : Nat → Int32) : Prop := (∀ σ, CS σ T (0, p) → cH3 σ h → ∃ b, Rn G (d + 11) 97 [.ref 1, .ref 3, .ref 13, .int (Int32.ofNat k)] σ = oV b ∧ pSame [1, 14] σ b ∧ CS b T s' ∧ otC k σ b ∧ (s'.1 = 0 → rwC b k R')) ∧ (∀ σ, RS σ T (0, p) → rH3 σ h → ∃ b, Lq G (d2 + 5) M_107 (39, [some (.ref 33), some (.int (Int32.ofNat k)), some (.int 0), none], [], σ) = oV b ∧ rF4 σ b ∧ RS b T s' ∧ otN k σ b ∧ (s'.1 = 0 → rwN b k R')) ∧ (s'.1 = 0 → okT h R' ∧ p ≤ s'.2 ∧ s'.2 ≤ T.1)
theorem mOf_fwd {s : Nat × Nat} {m : Int32} : fwd T s (mOf T m s) := fun h h0 => by
  obtain ⟨_, _, _, e, _⟩ := mOf_0 h0
  have b := tE_le h
  rw [e]
  exact ⟨b.2.2, b.2.1⟩
theorem sheet1 {h : Ho} {p : Nat} (hk : k < 60) (hh : Hok h) (hp : p ≤ T.1) : ∃ s' R', shO G d d2 T h k p s' R' := by
  obtain ⟨c0, c1, c2, c3, c4⟩ := hh.1
  obtain ⟨s1, hs1⟩ : ∃ s1, s1 = mOf T (Int32.ofNat (hn h 0)) (0, p) := ⟨_, rfl⟩
  obtain ⟨s2, hs2⟩ : ∃ s2, s2 = mOf T (Int32.ofNat (hn h 1)) s1 := ⟨_, rfl⟩
  have z2 : s2.1 = 0 → s1.1 = 0 ∧ (∃ n, n < hn h 0 ∧ tN T p = Int32.ofNat n) ∧ (∃ n, n < hn h 1 ∧ tN T s1.2 = Int32.ofNat n) ∧ p ≤ s2.2 ∧ s2.2 ≤ T.1 := by
    intro hz
    rw [hs2] at hz
    obtain ⟨a1, a2, a3, a4, n2, a5, a6⟩ := mOf_0 hz
    have hz1 := a1
    rw [hs1] at hz1
    obtain ⟨b1, b2, b3, b4, n1, b5, b6⟩ := mOf_0 hz1
    have b3 : tN T p < Int32.ofNat (hn h 0) := b3
    have b6 : tN T p = Int32.ofNat n1 := b6
    have w1 := (mOf_fwd (T := T) (s := (0, p)) (m := Int32.ofNat (hn h 0))) hp hz1
    rw [← hs1] at w1
    have w2 := (mOf_fwd (T := T) (s := s1) (m := Int32.ofNat (hn h 1))) w1.2 hz
    rw [← hs2] at w2
    have w11 : p ≤ s1.2 := w1.1
    rw [b6] at b3
    rw [a6] at a3
    exact ⟨a1, ⟨n1, (pN_lt (by omega) (by omega)).mp b3, b6⟩, ⟨n2, (pN_lt (by omega) (by omega)).mp a3, a6⟩, Nat.le_trans w11 w2.1, w2.2⟩
  obtain ⟨R0, hR0⟩ : ∃ R0, R0 = newRow (tN T p) (tN T s1.2) := ⟨_, rfl⟩
  have r0 : ∀ c, c < 15 → R0 c = 0 := fun c hc => by
    rw [hR0]
    exact if_pos hc
  obtain ⟨s3, R3, h1, h2, h3, h4⟩ := answersX (G := G) (d := d) (d2 := d2) (T := T) (k := k) (nl := hn h 3) hk c3 s2 R0 (fun hz => (z2 hz).2.2.2.2) (fun c hc => by
    rw [r0 c (by omega)]
    exact ⟨by decide, by decide⟩)
  have z3 : (yE T (yA T s3)).1 = 0 → s3.1 = 0 := fun hz => yA_0 (yE_0 hz).2.2.2
  have k3 : (yE T (yA T s3)).1 = 0 → okT h (tlR T (yA T s3) (shR T s3 R3)) ∧ (tW T (yC T (yA T s3)) 38 = true → tlR T (yA T s3) (shR T s3 R3) 15 ≠ 100) := by
    intro hz
    obtain ⟨y1, y2, y3⟩ := h4 (z3 hz)
    obtain ⟨_, ⟨n1, l1, x1⟩, ⟨n2, l2, x2⟩, _, _⟩ := z2 y1
    refine okT_tail hz ⟨n1, l1, ?_⟩ ⟨n2, l2, ?_⟩ y2 ?_ ?_
    · rw [y3 16 (by decide), hR0, ← x1]
      rfl
    · rw [y3 17 (by decide), hR0, ← x2]
      rfl
    · rw [y3 12 (by decide), r0 12 (by decide)]
    · rw [y3 15 (by decide), hR0]
      rfl
  refine ⟨yE T (yA T s3), tlR T (yA T s3) (shR T s3 R3), fun σ q qh => ?_, fun σ q qh => ?_, fun hz => ⟨(k3 hz).1, ?_⟩⟩
  · obtain ⟨v1, a1, e1, f1, g1, w1⟩ := s_takeOf (G := G) (d := d + 1) q (Int32.ofNat (hn h 0))
    rw [← hs1] at g1 w1
    obtain ⟨v2, a2, e2, f2, g2, w2⟩ := s_takeOf (G := G) (d := d + 1) g1 (Int32.ofNat (hn h 1))
    rw [← hs2] at g2 w2
    obtain ⟨a3, e3, f3, r3, o3⟩ := s_layC (G := G) (d := d + 7) (σ := a2) hk (x := v1) (y := v2)
    have g3 : CS a3 T s2 := CS.ps (os := [14]) g2 f3 (by decide) (by decide)
    have F3 : pSame [1, 14] σ a3 := ((f1.mono (by decide)).trans (f2.mono (by decide))).trans (f3.mono (by decide))
    obtain ⟨a4, e4, f4, g4, o4, r4⟩ := h1 a3 g3 (fun hz c hc => by
      rw [r3 c hc, hR0, w1 (z2 hz).1, w2 hz]) (by rw [F3.at (by decide)]; exact qh.2.2)
    obtain ⟨b, e5, f5, g5, o5, r5⟩ := s_tlC0 (G := G) (d := d) g4 hk
    have hm0 : Rn G (d + 10) 98 [.ref 3, .int (0 : Int32)] σ = oI (Int32.ofNat (hn h 0)) σ := by
      rw [s_howMany (G := G) (d := d + 8) (x := 0) (k := 0) rfl (by decide), qh.1]
    have hm1 : Rn G (d + 10) 98 [.ref 3, .int (1 : Int32)] a1 = oI (Int32.ofNat (hn h 1)) a1 := by
      rw [s_howMany (G := G) (d := d + 8) (x := 1) (k := 1) rfl (by decide), f1.at (by decide), qh.2.1]
    refine ⟨b, ?_, (F3.trans f4).trans f5, g5, fun j hj => ?_, fun hz => r5 hz R3 (r4 (z3 hz))⟩
    · rw [tlC_eq, hm0, pCI, e1, pCI, hm1, pCI, e2, pCI, e3, pCV, e_Rh_SheetReader_readAnswers, e4, pCV, e5]
    · rw [o5 j hj, o4 j hj, o3 j (Or.inl hj), f2.at (by decide), f1.at (by decide)]
  · obtain ⟨a0, e0, f0, r00, o0⟩ := s_zeros (G := G) (d := d2 + 5) (σ := σ) hk
    obtain ⟨a1, ha1⟩ : ∃ a1, a1 = aSI (aSI a0 54 k 0) 53 k 0 := ⟨_, rfl⟩
    have f1 : pSame [40, 53, 54] σ a1 := by
      rw [ha1]
      exact ((f0.mono (by decide)).si (by decide)).si (by decide)
    have g1 : RS a1 T (0, p) := RS.ps q f1 (by decide) (by decide)
    obtain ⟨v2, a2, e2, f2, g2, w2⟩ := s_amongR (G := G) (d := d2 + 2) g1 (Int32.ofNat (hn h 0))
    rw [← hs1] at g2 w2
    obtain ⟨a3, ha3⟩ : ∃ a3, a3 = aSI a2 40 (17 * k + 15) v2 := ⟨_, rfl⟩
    have g3 : RS a3 T s1 := by
      rw [ha3]
      exact RS.ps (os := [40]) g2 (pSame.rfl'.si (by decide)) (by decide) (by decide)
    obtain ⟨v4, a4, e4, f4, g4, w4⟩ := s_amongR (G := G) (d := d2 + 2) g3 (Int32.ofNat (hn h 1))
    rw [← hs2] at g4 w4
    obtain ⟨a5, ha5⟩ : ∃ a5, a5 = aSI a4 40 (17 * k + 16) v4 := ⟨_, rfl⟩
    have g5 : RS a5 T s2 := by
      rw [ha5]
      exact RS.ps (os := [40]) g4 (pSame.rfl'.si (by decide)) (by decide) (by decide)
    have x1 : ∀ x, a1.1 33 x = σ.1 33 x := fun x => by rw [f1.at (by decide)]
    have x3 : ∀ x, x < 16 ∨ x = 18 ∨ 25 < x → a3.1 33 x = σ.1 33 x := fun x hx => by
      rw [ha3, pSI_ne (by decide), f2.2 x hx, x1]
    have x5 : ∀ x, x < 16 ∨ x = 18 ∨ 25 < x → a5.1 33 x = σ.1 33 x := fun x hx => by
      rw [ha5, pSI_ne (by decide), f4.2 x hx, x3 x hx]
    have t5 : ∀ j, a5.1 40 j = if j = 17 * k + 16 then v4 else if j = 17 * k + 15 then v2 else a0.1 40 j := by
      intro j
      rw [ha5]
      by_cases e : j = 17 * k + 16
      · rw [if_pos e, e, pSI_at]
      · rw [if_neg e, pSI_of e, f4.1.at (by decide), ha3]
        by_cases e' : j = 17 * k + 15
        · rw [if_pos e', e', pSI_at]
        · rw [if_neg e', pSI_of e', f2.1.at (by decide), ha1, pSI_ne (by decide), pSI_ne (by decide)]
    have u53 : ∀ j, j ≠ k → a5.1 53 j = σ.1 53 j ∧ a5.1 54 j = σ.1 54 j := by
      intro j hj
      refine ⟨?_, ?_⟩
      · rw [ha5, pSI_ne (by decide), f4.1.at (by decide), ha3, pSI_ne (by decide), f2.1.at (by decide), ha1, pSI_of hj, pSI_ne (by decide), f0.at (by decide)]
      · rw [ha5, pSI_ne (by decide), f4.1.at (by decide), ha3, pSI_ne (by decide), f2.1.at (by decide), ha1, pSI_ne (by decide), pSI_of hj, f0.at (by decide)]
    have u54 : a5.1 54 k = 0 := by
      rw [ha5, pSI_ne (by decide), f4.1.at (by decide), ha3, pSI_ne (by decide), f2.1.at (by decide), ha1, pSI_ne (by decide), pSI_at]
    have F5 : rF4 σ a5 := by
      refine ⟨?_, x5⟩
      rw [ha5]
      refine pSame.si ?_ (by decide)
      refine pSame.trans ?_ (f4.1.mono (by decide))
      rw [ha3]
      refine pSame.si ?_ (by decide)
      exact (f1.mono (by decide)).trans (f2.1.mono (by decide))
    obtain ⟨a6, e6, f6, fx6, g6, o6, r6⟩ := h2 a5 g5 (fun hz j hj => by
      rw [t5, if_neg (by omega), if_neg (by omega), r00 j (by omega), r0 j hj]) (by rw [x5 4 (by omega)]; exact qh.2.2)
    obtain ⟨b, e7, f7, g7, o7, p7, r7⟩ := s_tlM0 (G := G) (d := d2) g6 hk
    have F6 : rF4 σ a6 := F5.trans ⟨f6.mono (by decide), fx6⟩
    have y54 : a6.1 54 k = 0 := by rw [f6.at (by decide), u54]
    refine ⟨b, ?_, F6.trans f7, g7, ⟨fun j hj => ?_, fun j hj => ?_⟩, fun hz => ?_⟩
    · refine Eq.trans e0 ?_
      show Lq G (d2 + 5) M_107 (39, [some (.ref 33), some (.int (Int32.ofNat k)), some (.int (Int32.ofNat 17)), none], [], a0) = oV b
      have n1 : a0.1 33 1 = Int32.ofNat (hn h 0) := by rw [f0.at (by decide), qh.1]
      have n2 : a2.1 33 2 = Int32.ofNat (hn h 1) := by rw [f2.2 2 (by omega), x1, qh.2.1]
      rw [c_Md_readsSheet_39, if_pos (pEndL (c := 17) (n := 17) rfl), pIx hk (by decide), pIx hk (by decide), n1, ← ha1, e2, pCI, aIx17 (c := 15) (y := 15) hk rfl (by decide), n2, ← ha3, e4, pCI, aIx17 (c := 16) (y := 16) hk rfl (by decide), ← ha5, e6, e7]
    · rw [o7 j (by omega), o6 j (by omega), t5, if_neg (by omega), if_neg (by omega), o0 j (by omega)]
    · obtain ⟨y1, y2⟩ := p7 j (by omega)
      obtain ⟨y3, y4⟩ := u53 j (by omega)
      rw [y1, y2, f6.at (by decide), f6.at (by decide), y3, y4]
      exact ⟨rfl, rfl⟩
    · obtain ⟨y1, y2, y3⟩ := h4 (z3 hz)
      have zz := z2 y1
      refine r7 hz R3 (r6 (z3 hz)) ?_ ?_ y54 ?_ (k3 hz).2
      · rw [o6 _ (by omega), t5, if_neg (by omega), if_pos rfl, y3 16 (by decide), hR0, w2 zz.1]
        rfl
      · rw [o6 _ (by omega), t5, if_pos rfl, y3 17 (by decide), hR0, w4 y1]
        rfl
      · rw [y3 15 (by decide), hR0]
        rfl
  · have zz := z2 (h4 (z3 hz)).1
    have a := h3 zz.2.2.2.2 (z3 hz)
    have zA : (yA T s3).1 = 0 := (yE_0 hz).2.2.2
    have b := (fwd_yA (T := T) (s := s3)) a.2 zA
    have c := (fwd_yE (T := T) (s := yA T s3)) b.2 hz
    exact ⟨Nat.le_trans zz.2.2.2.1 (Nat.le_trans a.1 (Nat.le_trans b.1 c.1)), c.2⟩
end PSheet
