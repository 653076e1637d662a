/-! ===== the class reads a rule ===== -/
section PRule
variable {G : Nat × (Nat → Int32)} {d : Nat} {σ : aH} {T : Tx}
theorem s_cellA {r n : Nat} {x : Int32} (hr : tkd G.1 G.2 r = .inl (0, n)) (hn : n < 2147483648) : ∃ v, Rn G (d + 1) 32 [.ref r, .int x] σ = oI v σ := by
  rcases rngI (x := x) (n := n) hn with ⟨i, hi, e⟩ | h
  · exact ⟨_, s_cell hr e hi hn⟩
  · exact ⟨_, s_cellO hr h⟩
theorem s_bindsA {x : Int32} : ∃ v, Rn G (d + 1) 32 [.ref 67, .int x] σ = oI v σ := by
  rcases rngI (x := x) (n := 10) (by decide) with ⟨i, hi, e⟩ | h
  · exact ⟨_, s_cellC (n := 10) (i := i) (g := fun k => ([0, 1, 2, 3, 4, 4, 5, 5, 6, 6] : List Int32).getD k 0) rfl e hi (by decide)⟩
  · refine ⟨0, ?_⟩
    rw [e_Rh_cell]
    by_cases h0 : x < 0
    · rw [if_pos h0]
    · rw [if_neg h0]
      show (if Int32.ofNat 10 ≤ x then oI 0 σ else _) = _
      rw [if_pos (h.resolve_left h0)]
theorem s_putA {r n : Nat} {x v : Int32} (hr : tkd G.1 G.2 r = .inl (0, n)) (hn : n < 2147483648) : ∃ b, Rn G (d + 1) 24 [.ref r, .int x, .int v] σ = oV b ∧ pSame [r] σ b := by
  rcases rngI (x := x) (n := n) hn with ⟨i, hi, e⟩ | h
  · exact ⟨_, s_put hr e hi hn, pSame.rfl'.si (List.mem_cons_self ..)⟩
  · exact ⟨_, s_putO hr h, pSame.rfl'⟩
theorem s_addA {x : Int32} : ∃ b, Rn G (d + 2) 50 [.ref 7, .int x] σ = oV b ∧ pSame [7, 10] σ b := by
  obtain ⟨a, e, f⟩ := s_putA (G := G) (d := d) (σ := σ) (r := 10) (n := 700) (x := σ.1 7 3) (v := x) rfl (by decide)
  rw [e_Rh_House_addStep, e, pCV]
  exact ⟨_, rfl, (f.mono (by decide)).si (by decide)⟩
theorem s_awaitA {x : Int32} : ∃ b, Rn G (d + 2) 47 [.ref 11, .int x] σ = oV b ∧ pSame [11, 12] σ b := by
  obtain ⟨a, e, f⟩ := s_putA (G := G) (d := d) (σ := σ) (r := 12) (n := 128) (x := σ.1 11 1) (v := x) rfl (by decide)
  rw [e_Rh_RuleReader_await, e, pCV]
  exact ⟨_, rfl, (f.mono (by decide)).si (by decide)⟩
theorem s_lastA : ∃ v, Rn G (d + 2) 53 [.ref 11] σ = oI v σ := by
  rw [e_Rh_RuleReader_lastBinds]
  by_cases h : σ.1 11 1 ≤ 0
  · rw [if_pos h]
    exact ⟨_, rfl⟩
  · obtain ⟨v, e⟩ := s_cellA (G := G) (d := d) (σ := σ) (r := 12) (n := 128) (x := σ.1 11 1 - 1) rfl (by decide)
    obtain ⟨w, e2⟩ := s_bindsA (G := G) (d := d) (σ := σ) (x := v)
    rw [if_neg h, e, pCI, e2, pCI]
    exact ⟨_, rfl⟩
theorem s_doA {x2 : Int32} : ∀ (n : Nat) (σ : aH), n < 2147483648 → ∃ b, Lq G (d + 3) M_52 (5, [some (.ref 11), some (.ref 7), some (.int x2), some (.int (Int32.ofNat n))], [], σ) = oV b ∧ pSame [7, 10, 11] σ b
  | 0, σ, _ => by
    rw [c_Rh_RuleReader_doPending_5, if_pos (show Int32.ofNat 0 ≤ 0 from Int32.le_refl 0)]
    exact ⟨_, rfl, pSame.rfl'⟩
  | n + 1, σ, h => by
    obtain ⟨v, e⟩ := s_lastA (G := G) (d := d + 1) (σ := σ)
    rw [c_Rh_RuleReader_doPending_5, if_neg (show ¬ Int32.ofNat (n + 1) ≤ 0 from fun h2 => absurd ((pN_le (b := 0) h (by decide)).mp h2) (by omega)), e, pCI]
    by_cases h1 : v < x2
    · rw [if_pos h1]
      exact ⟨_, rfl, pSame.rfl'⟩
    · obtain ⟨w, e2⟩ := s_cellA (G := G) (d := d + 2) (σ := aSI σ 11 1 (σ.1 11 1 - 1)) (r := 12) (n := 128) (x := σ.1 11 1 - 1) rfl (by decide)
      obtain ⟨a, e3, f3⟩ := s_addA (G := G) (d := d + 1) (σ := aSI σ 11 1 (σ.1 11 1 - 1)) (x := -w)
      obtain ⟨b, e4, f4⟩ := s_doA (x2 := x2) n a (by omega)
      rw [if_neg h1, e2, pCI, e3, pCV, pSm1 (show 1 ≤ n + 1 by omega), Nat.add_sub_cancel, e4]
      exact ⟨b, rfl, ((pSame.rfl'.si (by decide)).trans (f3.mono (by decide))).trans f4⟩
/-! what is known of the reader's own row -/
def CR (σ : aH) (base : Nat) (pend : List Nat) (out : List Int32) : Prop := σ.1 11 1 = Int32.ofNat pend.length ∧ σ.1 11 2 = Int32.ofNat (opn pend) ∧ stk (fun x => Int32.ofNat x) (σ.1 12) pend ∧ σ.1 7 3 = Int32.ofNat (base + out.length) ∧ pSeg (σ.1 10) base out
def CE (σ : aH) (T : Tx) (base p : Nat) (pend : List Nat) (out : List Int32) (due may : Bool) : Prop := CS σ T (0, p) ∧ CR σ base pend out ∧ σ.1 11 4 = bI due ∧ (due = true → σ.1 11 3 = Int32.ofNat (nts pend) ∧ σ.1 11 5 = bI may) ∧ (due = false → σ.1 11 3 = 0)
theorem CR.ps {σ' : aH} {base : Nat} {pend : List Nat} {out : List Int32} {os : List Nat} (q : CR σ base pend out) (f : pSame os σ σ') (h7 : 7 ∉ os) (h10 : 10 ∉ os) (h11 : 11 ∉ os) (h12 : 12 ∉ os) : CR σ' base pend out := by
  unfold CR
  rw [f.at h7, f.at h10, f.at h11, f.at h12]
  exact q
theorem s_await {x n : Nat} {x1 : Int32} (hx : x1 = Int32.ofNat x) (e : σ.1 11 1 = Int32.ofNat n) (hn : n < 128) : Rn G (d + 2) 47 [.ref 11, .int x1] σ = oV (aSI (aSI σ 12 n (Int32.ofNat x)) 11 1 (Int32.ofNat (n + 1))) := by
  rw [e_Rh_RuleReader_await, s_put (r := 12) (n := 128) (i := n) rfl e hn (by decide), pCV, pSI_ne (by decide), e, pN_s, hx]
theorem s_binds {x : Nat} (hx : x < 10) : Rn G (d + 1) 32 [.ref 67, .int (Int32.ofNat x)] σ = oI (Int32.ofNat (opB x)) σ := by
  rw [s_cellC (n := 10) (i := x) (g := fun k => ([0, 1, 2, 3, 4, 4, 5, 5, 6, 6] : List Int32).getD k 0) rfl rfl hx (by decide)]
  rcases (show x = 0 ∨ x = 1 ∨ x = 2 ∨ x = 3 ∨ x = 4 ∨ x = 5 ∨ x = 6 ∨ x = 7 ∨ x = 8 ∨ x = 9 by omega) with rfl | rfl | rfl | rfl | rfl | rfl | rfl | rfl | rfl | rfl <;> rfl
theorem s_lastB {pend : List Nat} (hk : okK pend) (e : σ.1 11 1 = Int32.ofNat pend.length) (st : stk (fun x => Int32.ofNat x) (σ.1 12) pend) : Rn G (d + 2) 53 [.ref 11] σ = oI (Int32.ofNat (tpB pend)) σ := by
  have h83 := (okK_84 hk).1
  rw [e_Rh_RuleReader_lastBinds, e]
  cases pend with
  | nil =>
    rw [if_pos (show Int32.ofNat ([] : List Nat).length ≤ 0 from Int32.le_refl 0)]
    rfl
  | cons x r =>
    rw [List.length_cons] at h83 ⊢
    rw [if_neg (show ¬ Int32.ofNat (r.length + 1) ≤ 0 from fun h2 => absurd ((pN_le (b := 0) (by omega) (by decide)).mp h2) (by omega)), s_cell (r := 12) (n := 128) (i := r.length) rfl (pS1 (by omega)) (by omega) (by decide), pCI, st.1, s_binds hk.2.1, pCI]
    rfl
theorem s_addStep {k : Nat} {x : Int32} (e : σ.1 7 3 = Int32.ofNat k) (hk : k < 700) : Rn G (d + 2) 50 [.ref 7, .int x] σ = oV (aSI (aSI σ 10 k x) 7 3 (Int32.ofNat (k + 1))) := by
  rw [e_Rh_House_addStep, s_put (r := 10) (n := 700) (i := k) rfl e hk (by decide), pCV, pSI_ne (by decide), e, pN_s]
/-- what is done of that which waits -/
theorem s_doP {b : Nat} (hb : b < 8) : ∀ (pend : List Nat) (k : Nat) (σ : aH), okK pend → σ.1 11 1 = Int32.ofNat pend.length → stk (fun x => Int32.ofNat x) (σ.1 12) pend → σ.1 7 3 = Int32.ofNat k → k + pend.length ≤ 700 → (b = 0 → opn pend = 0) → 0 < b → ∃ a, Lq G (d + 3) M_52 (5, [some (.ref 11), some (.ref 7), some (.int (Int32.ofNat b)), some (.int (Int32.ofNat pend.length))], [], σ) = oV a ∧ pSame [7, 10, 11] σ a ∧ a.1 11 1 = Int32.ofNat (poR b pend).length ∧ (∀ j, j ≠ 1 → a.1 11 j = σ.1 11 j) ∧ a.1 7 3 = Int32.ofNat (k + (poO b pend).length) ∧ pSeg (a.1 10) k (poO b pend) ∧ ∀ i, i < k → a.1 10 i = σ.1 10 i
  | [], k, σ, _, e1, _, e7, _, _, _ => by
    rw [c_Rh_RuleReader_doPending_5, if_pos (show Int32.ofNat ([] : List Nat).length ≤ 0 from Int32.le_refl 0)]
    exact ⟨_, rfl, pSame.rfl', e1, fun _ _ => rfl, e7, trivial, fun _ _ => rfl⟩
  | x :: r, k, σ, hk, e1, st, e7, hl, hb0, hb1 => by
    have h83 := (okK_84 hk).1
    have t6 := tpB_le hk
    rw [List.length_cons] at h83 hl
    rw [c_Rh_RuleReader_doPending_5, List.length_cons, if_neg (show ¬ Int32.ofNat (r.length + 1) ≤ 0 from fun h2 => absurd ((pN_le (b := 0) (by omega) (by decide)).mp h2) (by omega)), s_lastB (d := d + 1) hk e1 st, pCI]
    rw [List.length_cons] at e1
    show ∃ a, (if Int32.ofNat (opB x) < Int32.ofNat b then oV σ else _) = oV a ∧ pSame [7, 10, 11] σ a ∧ a.1 11 1 = Int32.ofNat (if b ≤ opB x then poR b r else x :: r).length ∧ (∀ j, j ≠ 1 → a.1 11 j = σ.1 11 j) ∧ a.1 7 3 = Int32.ofNat (k + (if b ≤ opB x then (-(Int32.ofNat x)) :: poO b r else []).length) ∧ pSeg (a.1 10) k (if b ≤ opB x then (-(Int32.ofNat x)) :: poO b r else []) ∧ ∀ i, i < k → a.1 10 i = σ.1 10 i
    have t6 : opB x ≤ 6 := t6
    by_cases h : b ≤ opB x
    · rw [if_neg (fun h2 => absurd ((pN_lt (by omega) (by omega)).mp h2) (by omega)), if_pos h, if_pos h, e1, show Int32.ofNat (r.length + 1) - 1 = Int32.ofNat r.length from pS1 (by omega)]
      have e7' : (aSI σ 11 1 (Int32.ofNat r.length)).1 7 3 = Int32.ofNat k := by rw [pSI_ne (by decide), e7]
      rw [s_cell (r := 12) (n := 128) (i := r.length) rfl rfl (by omega) (by decide), pCI, pSI_ne (by decide), st.1, s_addStep (d := d + 1) e7' (by omega), pCV, pSm1 (show 1 ≤ r.length + 1 by omega), Nat.add_sub_cancel]
      obtain ⟨a, ea, fa, a1, aj, a7, a10, ap⟩ := s_doP hb r (k + 1) (aSI (aSI (aSI σ 11 1 (Int32.ofNat r.length)) 10 k (-(Int32.ofNat x))) 7 3 (Int32.ofNat (k + 1))) hk.1 (by rw [pSI_ne (by decide), pSI_ne (by decide), pSI_at]) (by rw [pSI_ne (by decide), pSI_ne (by decide), pSI_ne (by decide)]; exact st.2) pSI_at (by omega) (fun e => by omega) hb1
      refine ⟨a, ea, (((pSame.rfl'.si (by decide)).si (by decide)).si (by decide)).trans fa, a1, fun j hj => ?_, ?_, ⟨?_, a10⟩, fun i hi => ?_⟩
      · rw [aj j hj, pSI_ne (by decide), pSI_ne (by decide), pSI_of hj]
      · rw [a7, List.length_cons, show k + 1 + (poO b r).length = k + ((poO b r).length + 1) by omega]
      · rw [ap k (by omega), pSI_ne (by decide), pSI_at]
      · rw [ap i (by omega), pSI_ne (by decide), pSI_of (by omega), pSI_ne (by decide)]
    · rw [if_pos ((pN_lt (by omega) (by omega)).mpr (by omega)), if_neg h, if_neg h]
      exact ⟨_, rfl, pSame.rfl', e1, fun _ _ => rfl, e7, trivial, fun _ _ => rfl⟩
theorem stk_po {c f : Nat → Int32} {b : Nat} : ∀ (l : List Nat), stk c f l → stk c f (poR b l)
  | [], _ => trivial
  | x :: r, q => by
    show stk c f (if b ≤ opB x then poR b r else x :: r)
    by_cases h : b ≤ opB x
    · rw [if_pos h]
      exact stk_po r q.2
    · rw [if_neg h]
      exact q
theorem s_doR {b base : Nat} {x2 : Int32} {pend : List Nat} {out : List Int32} (hx : x2 = Int32.ofNat b) (hb : b < 8) (hb1 : 0 < b) (hk : okK pend) (q : CR σ base pend out) (hl : base + out.length + pend.length ≤ 700) : ∃ a, Rn G (d + 4) 52 [.ref 11, .ref 7, .int x2] σ = oV a ∧ pSame [7, 10, 11] σ a ∧ CR a base (poR b pend) (out ++ poO b pend) ∧ (∀ j, j ≠ 1 → a.1 11 j = σ.1 11 j) ∧ ∀ i, i < base → a.1 10 i = σ.1 10 i := by
  obtain ⟨q1, q2, q3, q4, q5⟩ := q
  obtain ⟨a, ea, fa, a1, aj, a7, a10, ap⟩ := s_doP (G := G) (d := d) hb pend (base + out.length) σ hk q1 q3 q4 hl (fun e => by omega) hb1
  refine ⟨a, ?_, fa, ⟨a1, ?_, ?_, ?_, ?_⟩, aj, fun i hi => ap i (by omega)⟩
  · rw [e_Rh_RuleReader_doPending, q1, hx, ea]
  · rw [aj 2 (by decide), q2, poR_opn hb1]
  · rw [fa.at (by decide)]
    exact stk_po pend q3
  · rw [a7, List.length_append, Nat.add_assoc]
  · exact (pSeg_app _ _ _).mpr ⟨pSeg_congr _ _ (fun i h1 h2 => ap i h2) q5, a10⟩
def sp5 : List Nat := [1, 7, 10, 11, 12]
/-- one operand's or operator's reading, and the advance behind it -/
def cGo (G : Nat × (Nat → Int32)) (d mid : Nat) (σ b : aH) : Prop := ∃ a, Rn G (d + 9) mid [.ref 11, .ref 1, .ref 7] σ = oV a ∧ Rn G (d + 9) 8 [.ref 1] a = oV b
def cBad (G : Nat × (Nat → Int32)) (d mid : Nat) (T : Tx) (s : Nat × Nat) (σ : aH) : Prop := ∃ b, cGo G d mid σ b ∧ pSame sp5 σ b ∧ CS b T s
def cOkE (G : Nat × (Nat → Int32)) (d mid : Nat) (T : Tx) (base p : Nat) (pend : List Nat) (out : List Int32) (due may : Bool) (σ : aH) : Prop := ∃ b, cGo G d mid σ b ∧ pSame sp5 σ b ∧ CE b T base p pend out due may ∧ ∀ i, i < base → b.1 10 i = σ.1 10 i
theorem cBad_of {a : aH} {mid c p : Nat} (e : Rn G (d + 9) mid [.ref 11, .ref 1, .ref 7] σ = oV a) (f : pSame sp5 σ a) (q : CS a T (c, p)) (hc : c ≠ 0) : cBad G d mid T (c, p) σ := by
  obtain ⟨b, e2, f2, g⟩ := s_adv (G := G) (d := d + 2) q
  rw [show mAdv T (c, p) = (c, p) from if_neg hc] at g
  exact ⟨b, ⟨a, e, e2⟩, f.trans (f2.mono (by decide)), g⟩
theorem cOk_of {a : aH} {mid base p : Nat} {pend : List Nat} {out : List Int32} {due may : Bool} (e : Rn G (d + 9) mid [.ref 11, .ref 1, .ref 7] σ = oV a) (f : pSame sp5 σ a) (q : CE a T base p pend out due may) (h10 : ∀ i, i < base → a.1 10 i = σ.1 10 i) : cOkE G d mid T base (tE T p) pend out due may σ := by
  obtain ⟨q1, q2, q3, q4⟩ := q
  obtain ⟨b, e2, f2, g⟩ := s_adv (G := G) (d := d + 2) q1
  rw [show mAdv T (0, p) = (0, tE T p) from if_pos rfl] at g
  refine ⟨b, ⟨a, e, e2⟩, f.trans (f2.mono (by decide)), ⟨g, q2.ps f2 (by decide) (by decide) (by decide) (by decide), ?_, ?_⟩, fun i hi => ?_⟩
  · rw [f2.at (by decide), q3]
  · rw [f2.at (by decide)]
    exact q4
  · rw [f2.at (by decide), h10 i hi]
end PRule
