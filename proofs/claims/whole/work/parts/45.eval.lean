/-! ===== what a rule is worth ===== -/
def pDone (x a b : Int32) : Int32 := if x = -1 then (if a = 0 ∧ b = 0 then 0 else 1) else if x = -2 then (if a = 0 ∨ b = 0 then 0 else 1) else if x = -4 then (if a < b then 1 else 0) else if x = -5 then (if a = b then 1 else 0) else if x = -6 then a + b else if x = -7 then a - b else if x = -8 then a * b else if b = 0 then 0 else a / b
/-- steps, with what stands on the stack, the last first -/
def pEv (v : Nat → Int32) : List Int32 → List Int32 → Int32
  | [], st => st.headD 0
  | x :: xs, st => if 0 ≤ x then pEv v xs ((if x < 10000 then x else v (x - 10000).toNatClampNeg) :: st) else if x = -3 then (match st with
    | a :: r => pEv v xs ((if a = 0 then 1 else 0) :: r)
    | [] => 0) else match st with
    | b :: a :: r => pEv v xs (pDone x a b :: r)
    | _ => 0
def pStk (f : Nat → Int32) : List Int32 → Prop
  | [] => True
  | a :: r => f r.length = a ∧ pStk f r
theorem pStk_upd {σ : aH} {o j : Nat} {x : Int32} : ∀ st : List Int32, st.length ≤ j → pStk (σ.1 o) st → pStk ((aSI σ o j x).1 o) st
  | [], _, _ => trivial
  | a :: r, h, q => by
    have h' : r.length + 1 ≤ j := h
    exact ⟨(pSI_of (by omega)).trans q.1, pStk_upd r (by omega) q.2⟩
theorem pStk_push {σ : aH} {o : Nat} {x : Int32} {st : List Int32} (q : pStk (σ.1 o) st) : pStk ((aSI σ o st.length x).1 o) (x :: st) := ⟨pSI_at, pStk_upd st (Nat.le_refl _) q⟩
theorem pS1 {n : Nat} (h : 1 ≤ n) : Int32.ofNat n - 1 = Int32.ofNat (n - 1) := by
  obtain ⟨m, rfl⟩ : ∃ m, n = m + 1 := ⟨n - 1, by omega⟩
  rw [← pN_s, Int32.add_sub_cancel]
  rfl
theorem pSm1 {n : Nat} (h : 1 ≤ n) : Int32.ofNat n + (-1) = Int32.ofNat (n - 1) := by
  rw [← pS1 h, Int32.sub_eq_add_neg]
theorem pEnum {x : Int32} (h : -9 ≤ x) (h0 : ¬ 0 ≤ x) (h3 : ¬ x = -3) : x = -1 ∨ x = -2 ∨ x = -4 ∨ x = -5 ∨ x = -6 ∨ x = -7 ∨ x = -8 ∨ x = -9 := by
  have h1 : (-9 : Int) ≤ x.toInt := Int32.le_iff_toInt_le.mp h
  have h2 : ¬ (0 : Int) ≤ x.toInt := fun h => h0 (Int32.le_iff_toInt_le.mpr h)
  have h4 : x.toInt ≠ -3 := fun h => h3 (Int32.toInt_inj.mp h)
  rcases (show x.toInt = -1 ∨ x.toInt = -2 ∨ x.toInt = -4 ∨ x.toInt = -5 ∨ x.toInt = -6 ∨ x.toInt = -7 ∨ x.toInt = -8 ∨ x.toInt = -9 by omega) with e | e | e | e | e | e | e | e
  · exact Or.inl (Int32.toInt_inj.mp e)
  · exact Or.inr (Or.inl (Int32.toInt_inj.mp e))
  · exact Or.inr (Or.inr (Or.inl (Int32.toInt_inj.mp e)))
  · exact Or.inr (Or.inr (Or.inr (Or.inl (Int32.toInt_inj.mp e))))
  · exact Or.inr (Or.inr (Or.inr (Or.inr (Or.inl (Int32.toInt_inj.mp e)))))
  · exact Or.inr (Or.inr (Or.inr (Or.inr (Or.inr (Or.inl (Int32.toInt_inj.mp e))))))
  · exact Or.inr (Or.inr (Or.inr (Or.inr (Or.inr (Or.inr (Or.inl (Int32.toInt_inj.mp e)))))))
  · exact Or.inr (Or.inr (Or.inr (Or.inr (Or.inr (Or.inr (Or.inr (Int32.toInt_inj.mp e)))))))
section PEval
variable {G : Nat × (Nat → Int32)} {d : Nat} {σ : aH} {h : Ho} {s : Sh}
theorem pOr {a b : Int32} : (if a = 0 then (if b = 0 then oI 0 σ else oI 1 σ) else oI 1 σ) = oI (if a = 0 ∧ b = 0 then 0 else 1) σ := by
  by_cases ha : a = 0
  · by_cases hb : b = 0
    · rw [if_pos ha, if_pos hb, if_pos ⟨ha, hb⟩]
    · rw [if_pos ha, if_neg hb, if_neg (fun h => hb h.2)]
  · rw [if_neg ha, if_neg (fun h => ha h.1)]
theorem pAnd {a b : Int32} : (if a = 0 then oI 0 σ else if b = 0 then oI 0 σ else oI 1 σ) = oI (if a = 0 ∨ b = 0 then 0 else 1) σ := by
  by_cases ha : a = 0
  · rw [if_pos ha, if_pos (Or.inl ha)]
  · by_cases hb : b = 0
    · rw [if_neg ha, if_pos hb, if_pos (Or.inr hb)]
    · rw [if_neg ha, if_neg hb, if_neg (fun h => h.elim ha hb)]
theorem pLess {a b : Int32} : (if b ≤ a then oI 0 σ else oI 1 σ) = oI (if a < b then 1 else 0) σ := by
  by_cases ha : b ≤ a
  · rw [if_pos ha, if_neg (pNotLt.mpr ha)]
  · rw [if_neg ha, if_pos (pNotLe.mp ha)]
theorem pSameI {a b : Int32} : (if a = b then oI 1 σ else oI 0 σ) = oI (if a = b then 1 else 0) σ := by
  by_cases ha : a = b
  · rw [if_pos ha, if_pos ha]
  · rw [if_neg ha, if_neg ha]
theorem pOver {a b : Int32} : (if b = 0 then oI 0 σ else aNz b (oI (a / b) σ)) = oI (if b = 0 then 0 else a / b) σ := by
  by_cases ha : b = 0
  · rw [if_pos ha, if_pos ha]
  · unfold aNz
    rw [if_neg ha, if_neg ha, if_neg ha]
theorem s_done {x a b : Int32} (h1 : -9 ≤ x) (h0 : ¬ 0 ≤ x) (h3 : ¬ x = -3) : Rn G (d + 1) 127 [.int (-x), .int a, .int b] σ = oI (pDone x a b) σ := by
  rw [e_Rh_Sieve_done]
  rcases pEnum h1 h0 h3 with rfl | rfl | rfl | rfl | rfl | rfl | rfl | rfl
  · rw [if_pos (by decide)]; exact pOr
  · rw [if_neg (by decide), if_pos (by decide)]; exact pAnd
  · rw [if_neg (by decide), if_neg (by decide), if_neg (by decide), if_pos (by decide)]; exact pLess
  · rw [if_neg (by decide), if_neg (by decide), if_neg (by decide), if_neg (by decide), if_pos (by decide)]; exact pSameI
  · rw [if_neg (by decide), if_neg (by decide), if_neg (by decide), if_neg (by decide), if_neg (by decide), if_pos (by decide)]; rfl
  · rw [if_neg (by decide), if_neg (by decide), if_neg (by decide), if_neg (by decide), if_neg (by decide), if_neg (by decide), if_pos (by decide)]; rfl
  · rw [if_neg (by decide), if_neg (by decide), if_neg (by decide), if_neg (by decide), if_neg (by decide), if_neg (by decide), if_neg (by decide), if_pos (by decide)]; rfl
  · rw [if_neg (by decide), if_neg (by decide), if_neg (by decide), if_neg (by decide), if_neg (by decide), if_neg (by decide), if_neg (by decide), if_neg (by decide)]; exact pOver
theorem s_works {x a b : Int32} (h1 : -9 ≤ x) (h0 : ¬ 0 ≤ x) (h3 : ¬ x = -3) : Rn G (d + 1) 136 [.int (rOp x), .int a, .int b] σ = oI (pDone x a b) σ := by
  rw [e_Md_works]
  rcases pEnum h1 h0 h3 with rfl | rfl | rfl | rfl | rfl | rfl | rfl | rfl
  · rw [if_neg (by decide), if_pos (by decide)]; exact pOr
  · rw [if_pos (by decide)]; exact pAnd
  · rw [if_neg (by decide), if_neg (by decide), if_pos (by decide)]; exact pLess
  · rw [if_neg (by decide), if_neg (by decide), if_neg (by decide), if_pos (by decide)]; exact pSameI
  · rw [if_neg (by decide), if_neg (by decide), if_neg (by decide), if_neg (by decide), if_pos (by decide)]; rfl
  · rw [if_neg (by decide), if_neg (by decide), if_neg (by decide), if_neg (by decide), if_neg (by decide), if_pos (by decide)]; rfl
  · rw [if_neg (by decide), if_neg (by decide), if_neg (by decide), if_neg (by decide), if_neg (by decide), if_neg (by decide), if_pos (by decide)]; rfl
  · rw [if_neg (by decide), if_neg (by decide), if_neg (by decide), if_neg (by decide), if_neg (by decide), if_neg (by decide), if_neg (by decide)]; exact pOver
theorem rOp_ne {x : Int32} (h1 : -9 ≤ x) (h0 : ¬ 0 ≤ x) (h3 : ¬ x = -3) : ¬ rOp x = 0 ∧ ¬ rOp x = 1 ∧ ¬ rOp x = 2 ∧ ¬ rOp x = 3 := by
  rcases pEnum h1 h0 h3 with rfl | rfl | rfl | rfl | rfl | rfl | rfl | rfl <;> decide
/-- the class -/
theorem s_worthC_loop {v : Nat → Int32} {e : Nat} (he : e ≤ 700) : ∀ (xs : List Int32) (i : Nat) (st : List Int32) (σ : aH), pSeg (σ.1 6) i xs → i + xs.length = e → pStk (σ.1 23) st → pWf xs st.length → st.length ≤ 64 → (∀ w, w < 12 → σ.1 22 w = v w) → ∃ σ', Lq G (d + 2) M_124 (18, [some (.ref 17), some (.ref 3), none, some (.int (Int32.ofNat st.length)), some (.int (Int32.ofNat e)), some (.int (Int32.ofNat i)), none, none], [], σ) = oI (pEv v xs st) σ' ∧ pSame [23] σ σ'
  | [], i, st, σ, _, hi, hst, hw, h64, hv => by
    have ei : i = e := hi
    subst ei
    have hw : st.length = 1 := hw
    match st, hw with
    | [a], _ =>
      have e0 : σ.1 23 0 = a := hst.1
      refine ⟨σ, ?_, pSame.rfl'⟩
      rw [c_Rh_Sieve_worthOf_18, if_pos pEnd, s_cell (x := 0) (r := 23) (n := 64) (i := 0) rfl rfl (by decide) (by decide), pCI, e0]
      rfl
  | x :: xs, i, st, σ, hs, hi, hst, hw, h64, hv => by
    have hl : i + (xs.length + 1) = e := hi
    have hstep : Rn G (d + 2) 126 [.ref 3, .int (Int32.ofNat i)] σ = oI x σ := by
      rw [e_Rh_House_step, s_cell (r := 6) (n := 700) (i := i) rfl rfl (by omega) (by decide), pCI, hs.1]
    rw [c_Rh_Sieve_worthOf_18, if_neg (pGo (by omega) (by omega)), hstep, pCI]
    have hw' : if 0 ≤ x then x < 10012 ∧ st.length < 64 ∧ pWf xs (st.length + 1) else if x = -3 then 1 ≤ st.length ∧ pWf xs st.length else -9 ≤ x ∧ 2 ≤ st.length ∧ pWf xs (st.length - 1) := hw
    by_cases h0 : 0 ≤ x
    · rw [if_pos h0] at hw'
      obtain ⟨hx, hn, hw2⟩ := hw'
      rw [if_neg (pNotLt.mpr h0)]
      have hgo : ∀ y : Int32, ∃ σ', Lq G (d + 2) M_124 (18, [some (.ref 17), some (.ref 3), none, some (.int (Int32.ofNat st.length + 1)), some (.int (Int32.ofNat e)), some (.int (Int32.ofNat i + 1)), none, none], [], aSI σ 23 st.length y) = oI (pEv v xs (y :: st)) σ' ∧ pSame [23] σ σ' := by
        intro y
        obtain ⟨σ', r, f⟩ := s_worthC_loop (v := v) he xs (i + 1) (y :: st) (aSI σ 23 st.length y) (by rw [pSI_ne (by decide)]; exact hs.2) (by omega) (pStk_push hst) hw2 (by show st.length + 1 ≤ 64; omega) (fun w hw => by rw [pSI_ne (by decide)]; exact hv w hw)
        exact ⟨σ', by rw [pN_s, pN_s]; exact r, (pSame.rfl'.si (by decide)).trans f⟩
      by_cases h1 : x < 10000
      · rw [if_pos h1, if_pos rfl, s_put (r := 23) (n := 64) (i := st.length) rfl rfl hn (by decide), pCV]
        have e1 : pEv v (x :: xs) st = pEv v xs (x :: st) := by
          show (if 0 ≤ x then pEv v xs ((if x < 10000 then x else v (x - 10000).toNatClampNeg) :: st) else _) = _
          rw [if_pos h0, if_pos h1]
        rw [e1]
        exact hgo x
      · obtain ⟨w, hw12, ew⟩ : ∃ w : Nat, w < 12 ∧ x - 10000 = Int32.ofNat w := by
          have t1 : 0 ≤ x.toInt := Int32.le_iff_toInt_le.mp h0
          have t2 : ¬ x.toInt < 10000 := fun h => h1 (Int32.lt_iff_toInt_lt.mpr h)
          have t3 : x.toInt < 10012 := Int32.lt_iff_toInt_lt.mp hx
          have e4 : (10000 : Int32).toInt = 10000 := rfl
          have t4 : (x - 10000).toInt = x.toInt - 10000 := by rw [pI_sub (by rw [e4]; omega) (by rw [e4]; omega), e4]
          refine pN_ex2 (b := 12) (by decide) (Int32.le_iff_toInt_le.mpr ?_) (Int32.lt_iff_toInt_lt.mpr ?_)
          · show (0 : Int) ≤ _
            omega
          · show _ < (12 : Int)
            omega
        rw [if_neg h1, if_neg (by decide), ew, s_cell (r := 22) (n := 12) (i := w) rfl rfl hw12 (by decide), pCI, s_put (r := 23) (n := 64) (i := st.length) rfl rfl hn (by decide), pCV]
        have e1 : pEv v (x :: xs) st = pEv v xs (v w :: st) := by
          show (if 0 ≤ x then pEv v xs ((if x < 10000 then x else v (x - 10000).toNatClampNeg) :: st) else _) = _
          rw [if_pos h0, if_neg h1, ew, pN_cl (by omega)]
        rw [e1, hv w hw12]
        exact hgo (v w)
    · rw [if_neg h0] at hw'
      rw [if_pos (pNotLe.mp h0)]
      by_cases h3 : x = -3
      · rw [if_pos h3] at hw'
        rw [if_pos h3]
        obtain ⟨hn, hw2⟩ := hw'
        match st, hst, hn, hw2, h64 with
        | a :: r, hst, hn, hw2, h64 =>
          have h64' : r.length + 1 ≤ 64 := h64
          have e1 : pEv v (x :: xs) (a :: r) = pEv v xs ((if a = 0 then 1 else 0) :: r) := by
            show (if 0 ≤ x then _ else if x = -3 then pEv v xs ((if a = 0 then 1 else 0) :: r) else _) = _
            rw [if_neg h0, if_pos h3]
          have ep : Int32.ofNat (a :: r).length - 1 = Int32.ofNat r.length := pS1 (by show 1 ≤ r.length + 1; omega)
          have hgo : ∀ y : Int32, ∃ σ', Lq G (d + 2) M_124 (18, [some (.ref 17), some (.ref 3), none, some (.int (Int32.ofNat (a :: r).length)), some (.int (Int32.ofNat e)), some (.int (Int32.ofNat i + 1)), none, none], [], aSI σ 23 r.length y) = oI (pEv v xs (y :: r)) σ' ∧ pSame [23] σ σ' := by
            intro y
            obtain ⟨σ', r1, f⟩ := s_worthC_loop (v := v) he xs (i + 1) (y :: r) (aSI σ 23 r.length y) (by rw [pSI_ne (by decide)]; exact hs.2) (by omega) (pStk_push hst.2) hw2 h64 (fun w hw => by rw [pSI_ne (by decide)]; exact hv w hw)
            exact ⟨σ', by rw [pN_s]; exact r1, (pSame.rfl'.si (by decide)).trans f⟩
          rw [e1, ep, s_cell (r := 23) (n := 64) (i := r.length) rfl rfl (by omega) (by decide), pCI, hst.1]
          by_cases ha : a = 0
          · rw [if_pos ha, if_pos ha, s_put (r := 23) (n := 64) (i := r.length) rfl rfl (by omega) (by decide), pCV]
            exact hgo 1
          · rw [if_neg ha, if_neg ha, s_put (r := 23) (n := 64) (i := r.length) rfl rfl (by omega) (by decide), pCV]
            exact hgo 0
      · rw [if_neg h3] at hw'
        rw [if_neg h3]
        obtain ⟨h9, hn, hw2⟩ := hw'
        match st, hst, hn, hw2, h64 with
        | b :: a :: r, hst, hn, hw2, h64 =>
          have h64' : r.length + 1 + 1 ≤ 64 := h64
          have e1 : pEv v (x :: xs) (b :: a :: r) = pEv v xs (pDone x a b :: r) := by
            show (if 0 ≤ x then _ else if x = -3 then _ else pEv v xs (pDone x a b :: r)) = _
            rw [if_neg h0, if_neg h3]
          have ep : Int32.ofNat (b :: a :: r).length + (-1) = Int32.ofNat (r.length + 1) := pSm1 (by show 1 ≤ r.length + 1 + 1; omega)
          have ep2 : Int32.ofNat (r.length + 1) - 1 = Int32.ofNat r.length := pS1 (by omega)
          have e2 : σ.1 23 (r.length + 1) = b := hst.1
          have e3 : σ.1 23 r.length = a := hst.2.1
          rw [e1, ep, ep2, s_cell (r := 23) (n := 64) (i := r.length) rfl rfl (by omega) (by decide), pCI, s_cell (r := 23) (n := 64) (i := r.length + 1) rfl rfl (by omega) (by decide), pCI, e2, e3, s_done h9 h0 h3, pCI, s_put (r := 23) (n := 64) (i := r.length) rfl rfl (by omega) (by decide), pCV]
          obtain ⟨σ', r1, f⟩ := s_worthC_loop (v := v) he xs (i + 1) (pDone x a b :: r) (aSI σ 23 r.length (pDone x a b)) (by rw [pSI_ne (by decide)]; exact hs.2) (by omega) (pStk_push hst.2.2) hw2 (by show r.length + 1 ≤ 64; omega) (fun w hw => by rw [pSI_ne (by decide)]; exact hv w hw)
          exact ⟨σ', by rw [pN_s]; exact r1, (pSame.rfl'.si (by decide)).trans f⟩
/-- where a rule's steps begin -/
theorem s_firstStep {st : Nat → Nat} {n r : Nat} (h0 : st 0 = 0) (hst : ∀ r, r < n → σ.1 5 (282 + r) = Int32.ofNat (st (r + 1))) (hn : n ≤ 4) (hr : r ≤ n) : Rn G (d + 3) 125 [.ref 3, .int (Int32.ofNat r)] σ = oI (Int32.ofNat (st r)) σ := by
  rw [e_Rh_House_firstStep]
  by_cases h1 : r = 0
  · subst h1
    rw [if_neg (show ¬ (0 : Int32) < Int32.ofNat 0 from Int32.lt_irrefl), h0]
    rfl
  · rw [if_pos (show (0 : Int32) < Int32.ofNat r from (pN_lt (a := 0) (by decide) (by omega)).mpr (by omega)), pS1 (by omega), s_toldR (i := r - 1) rfl (by omega), pCI, hst (r - 1) (by omega), show r - 1 + 1 = r by omega]
theorem s_worthC {v : Nat → Int32} (q : cHo σ h) (hk : Hok h) {r : Nat} (hr : r < hn h 4) (hv : ∀ w, w < 12 → σ.1 22 w = v w) : ∃ σ', Rn G (d + 4) 124 [.ref 17, .ref 3, .int (Int32.ofNat r)] σ = oI (pEv v (hR h r) []) σ' ∧ pSame [23] σ σ' := by
  obtain ⟨st, h0, hst⟩ := q.2.2.2.2.2
  have h4 := hk.1.2.2.2.2
  obtain ⟨_, e1, e2, e3⟩ := hst r hr
  have hs := fun r hr => (hst r hr).1
  rw [e_Rh_Sieve_worthOf, pN_s, s_firstStep (r := r + 1) h0 hs h4 (by omega), pCI, s_firstStep (r := r) h0 hs h4 (by omega), pCI]
  exact s_worthC_loop (v := v) (d := d + 1) e2 (hR h r) (st r) [] σ e3 e1.symm trivial (hk.2.2.2.2 r hr) (by decide) hv
/-! the reference -/
def mVal (h : Ho) (s : Sh) (k w : Nat) : Int32 := if w = 0 then mSum h s k false else if w = 1 then mSum h s k true else if w = 11 then s.2 k 16 else if w < 5 then s.2 k (w + 10) else hS h (6 * (s.2 k 17).toNatClampNeg + (w - 5))
theorem s_valueOf (q : rHo σ h) (hk : Hok h) (qs : rSh σ 40 53 54 s) (hs : Sok h s) {k : Nat} (hk2 : k < s.1) {w : Nat} (hw : w < 12) : Rn G (d + 2) 134 [.ref 33, .int (Int32.ofNat k), .int (Int32.ofNat w)] σ = oI (mVal h s k w) σ := by
  have h60 := hs.1
  obtain ⟨p, hp, hp20, ep⟩ := (hs.2 k hk2).at hk
  have e16 : σ.1 40 (17 * k + 16) = Int32.ofNat p := (qs k hk2).2.2.1.trans ep
  have t5 : ∀ w, 5 ≤ w → w < 11 → (6 * Int32.ofNat p + Int32.ofNat w - 5 : Int32) = Int32.ofNat (6 * p + (w - 5)) := by
    intro w h1 h2
    rw [pM6, pA, show (5 : Int32) = Int32.ofNat 5 from rfl]
    obtain ⟨m, rfl⟩ : ∃ m, w = m + 5 := ⟨w - 5, by omega⟩
    rw [show 6 * p + (m + 5) = (6 * p + m) + 5 by omega, ← pA (6 * p + m) 5, Int32.add_sub_cancel, show m + 5 - 5 = m by omega]
  have tS : ∀ w, 5 ≤ w → w < 11 → mVal h s k w = σ.1 35 (6 * p + (w - 5)) := by
    intro w h1 h2
    unfold mVal
    rw [if_neg (by omega), if_neg (by omega), if_neg (by omega), if_neg (by omega), ep, pN_cl (by omega), q.2.2.1 p hp (w - 5) (by omega)]
  rw [e_Md_valueOf, pM17, pIxL (i := 17 * k + 16) (pA16 _) (by omega) (by decide), e16]
  rcases (show w = 0 ∨ w = 1 ∨ w = 2 ∨ w = 3 ∨ w = 4 ∨ w = 5 ∨ w = 6 ∨ w = 7 ∨ w = 8 ∨ w = 9 ∨ w = 10 ∨ w = 11 by omega) with rfl | rfl | rfl | rfl | rfl | rfl | rfl | rfl | rfl | rfl | rfl | rfl
  · rw [if_pos (by decide), s_sum q hk qs hk2 h60 (sd := false) (x := 0) rfl, pCI]; rfl
  · rw [if_neg (by decide), if_pos (by decide), s_sum q hk qs hk2 h60 (sd := true) (x := 1) rfl, pCI]; rfl
  · rw [if_neg (by decide), if_neg (by decide), if_pos (by decide), pIxL (i := 17 * k + 12) (pA12 _) (by omega) (by decide), (qs k hk2).1 12 (by decide)]; rfl
  · rw [if_neg (by decide), if_neg (by decide), if_neg (by decide), if_pos (by decide), pIxL (i := 17 * k + 13) (pA13 _) (by omega) (by decide), (qs k hk2).1 13 (by decide)]; rfl
  · rw [if_neg (by decide), if_neg (by decide), if_neg (by decide), if_neg (by decide), if_pos (by decide), pIxL (i := 17 * k + 14) (pA14 _) (by omega) (by decide), (qs k hk2).1 14 (by decide)]; rfl
  · rw [if_neg (by decide), if_neg (by decide), if_neg (by decide), if_neg (by decide), if_neg (by decide), if_pos (by decide), tS 5 (by decide) (by decide), pIxL (t5 5 (by decide) (by decide)) (by omega) (by decide)]
  · rw [if_neg (by decide), if_neg (by decide), if_neg (by decide), if_neg (by decide), if_neg (by decide), if_neg (by decide), if_pos (by decide), tS 6 (by decide) (by decide), pIxL (t5 6 (by decide) (by decide)) (by omega) (by decide)]
  · rw [if_neg (by decide), if_neg (by decide), if_neg (by decide), if_neg (by decide), if_neg (by decide), if_neg (by decide), if_neg (by decide), if_pos (by decide), tS 7 (by decide) (by decide), pIxL (t5 7 (by decide) (by decide)) (by omega) (by decide)]
  · rw [if_neg (by decide), if_neg (by decide), if_neg (by decide), if_neg (by decide), if_neg (by decide), if_neg (by decide), if_neg (by decide), if_neg (by decide), if_pos (by decide), tS 8 (by decide) (by decide), pIxL (t5 8 (by decide) (by decide)) (by omega) (by decide)]
  · rw [if_neg (by decide), if_neg (by decide), if_neg (by decide), if_neg (by decide), if_neg (by decide), if_neg (by decide), if_neg (by decide), if_neg (by decide), if_neg (by decide), if_pos (by decide), tS 9 (by decide) (by decide), pIxL (t5 9 (by decide) (by decide)) (by omega) (by decide)]
  · rw [if_neg (by decide), if_neg (by decide), if_neg (by decide), if_neg (by decide), if_neg (by decide), if_neg (by decide), if_neg (by decide), if_neg (by decide), if_neg (by decide), if_neg (by decide), if_pos (by decide), tS 10 (by decide) (by decide), pIxL (t5 10 (by decide) (by decide)) (by omega) (by decide)]
  · rw [if_neg (by decide), if_neg (by decide), if_neg (by decide), if_neg (by decide), if_neg (by decide), if_neg (by decide), if_neg (by decide), if_neg (by decide), if_neg (by decide), if_neg (by decide), if_neg (by decide), if_pos (by decide), pIxL (i := 17 * k + 15) (pA15 _) (by omega) (by decide), (qs k hk2).2.1]; rfl
theorem rEnc_push {x : Int32} {xs : List Int32} (h0 : 0 ≤ x) (h1 : x < 10000) : rEnc (x :: xs) = 1 :: x :: rEnc xs := by
  show (if 0 ≤ x then (if x < 10000 then 1 :: x :: rEnc xs else 2 :: (x - 10000) :: rEnc xs) else rOp x :: rEnc xs) = _
  rw [if_pos h0, if_pos h1]
theorem rEnc_val {x : Int32} {xs : List Int32} (h0 : 0 ≤ x) (h1 : ¬ x < 10000) : rEnc (x :: xs) = 2 :: (x - 10000) :: rEnc xs := by
  show (if 0 ≤ x then (if x < 10000 then 1 :: x :: rEnc xs else 2 :: (x - 10000) :: rEnc xs) else rOp x :: rEnc xs) = _
  rw [if_pos h0, if_neg h1]
theorem rEnc_op {x : Int32} {xs : List Int32} (h0 : ¬ 0 ≤ x) : rEnc (x :: xs) = rOp x :: rEnc xs := by
  show (if 0 ≤ x then (if x < 10000 then 1 :: x :: rEnc xs else 2 :: (x - 10000) :: rEnc xs) else rOp x :: rEnc xs) = _
  rw [if_neg h0]
theorem rEnc_pos : ∀ xs : List Int32, 1 ≤ (rEnc xs).length
  | [] => Nat.le_refl _
  | x :: xs => by
    show 1 ≤ (if 0 ≤ x then (if x < 10000 then 1 :: x :: rEnc xs else 2 :: (x - 10000) :: rEnc xs) else rOp x :: rEnc xs).length
    split
    · split
      · show 1 ≤ (rEnc xs).length + 1 + 1
        omega
      · show 1 ≤ (rEnc xs).length + 1 + 1
        omega
    · show 1 ≤ (rEnc xs).length + 1
      omega
theorem pValIx {x : Int32} (h1 : ¬ x < 10000) (hx : x < 10012) : ∃ w : Nat, w < 12 ∧ x - 10000 = Int32.ofNat w := by
  have t2 : ¬ x.toInt < 10000 := fun h => h1 (Int32.lt_iff_toInt_lt.mpr h)
  have t3 : x.toInt < 10012 := Int32.lt_iff_toInt_lt.mp hx
  have e4 : (10000 : Int32).toInt = 10000 := rfl
  have t4 : (x - 10000).toInt = x.toInt - 10000 := by rw [pI_sub (by rw [e4]; omega) (by rw [e4]; omega), e4]
  refine pN_ex2 (b := 12) (by decide) (Int32.le_iff_toInt_le.mpr ?_) (Int32.lt_iff_toInt_lt.mpr ?_)
  · show (0 : Int) ≤ _
    omega
  · show _ < (12 : Int)
    omega
theorem s_worthM_loop (hk : Hok h) (hs : Sok h s) {k : Nat} (hk2 : k < s.1) : ∀ (xs : List Int32) (i : Nat) (st : List Int32) (σ : aH), rHo σ h → rSh σ 40 53 54 s → pSeg (σ.1 38) i (rEnc xs) → i + (rEnc xs).length ≤ 1200 → pStk (σ.1 55) st → pWf xs st.length → st.length ≤ 64 → ∃ σ', Lq G (d + 2) M_133 (5, [some (.ref 33), none, some (.int (Int32.ofNat k)), some (.int (Int32.ofNat st.length)), some (.int (Int32.ofNat i)), none], [], σ) = oI (pEv (mVal h s k) xs st) σ' ∧ pSame [55] σ σ'
  | [], i, st, σ, q, qs, hsg, hi, hst, hw, h64 => by
    have hw : st.length = 1 := hw
    have hi' : i + 1 ≤ 1200 := hi
    match st, hw with
    | [a], _ =>
      have e0 : σ.1 55 0 = a := hst.1
      refine ⟨σ, ?_, pSame.rfl'⟩
      rw [c_Md_worth_5, pIx (by omega) (by decide), if_pos hsg.1, e0]
      rfl
  | x :: xs, i, st, σ, q, qs, hsg, hi, hst, hw, h64 => by
    have hw' : if 0 ≤ x then x < 10012 ∧ st.length < 64 ∧ pWf xs (st.length + 1) else if x = -3 then 1 ≤ st.length ∧ pWf xs st.length else -9 ≤ x ∧ 2 ≤ st.length ∧ pWf xs (st.length - 1) := hw
    have hpos := rEnc_pos (x :: xs)
    rw [c_Md_worth_5, pIx (by omega) (by decide), pIx (by omega) (by decide)]
    have hgo : ∀ (y : Int32) (r : List Int32) (i' : Nat), pSeg (σ.1 38) i' (rEnc xs) → i' + (rEnc xs).length ≤ 1200 → pStk (σ.1 55) r → pWf xs (r.length + 1) → r.length + 1 ≤ 64 → ∃ σ', Lq G (d + 2) M_133 (5, [some (.ref 33), none, some (.int (Int32.ofNat k)), some (.int (Int32.ofNat (r.length + 1))), some (.int (Int32.ofNat i')), none], [], aSI σ 55 r.length y) = oI (pEv (mVal h s k) xs (y :: r)) σ' ∧ pSame [55] σ σ' := by
      intro y r i' g1 g2 g3 g4 g5
      have f0 : pSame [55] σ (aSI σ 55 r.length y) := pSame.rfl'.si (by decide)
      obtain ⟨σ', r1, f⟩ := s_worthM_loop hk hs hk2 xs i' (y :: r) (aSI σ 55 r.length y) (q.same (fun k _ => by rw [pSI_ne (by decide)]) (pSI_ne (by decide)) (pSI_ne (by decide)) (pSI_ne (by decide)) (pSI_ne (by decide)) (pSI_ne (by decide)) (pSI_ne (by decide))) (qs.same (pSI_ne (by decide)) (pSI_ne (by decide)) (pSI_ne (by decide))) (by rw [pSI_ne (by decide)]; exact g1) g2 (pStk_push g3) g4 g5
      exact ⟨σ', r1, f0.trans f⟩
    by_cases h0 : 0 ≤ x
    · rw [if_pos h0] at hw'
      obtain ⟨hx, hn, hw2⟩ := hw'
      by_cases h1 : x < 10000
      · rw [rEnc_push h0 h1] at hsg hi
        have hi' : i + ((rEnc xs).length + 1 + 1) ≤ 1200 := hi
        have e1 : pEv (mVal h s k) (x :: xs) st = pEv (mVal h s k) xs (x :: st) := by
          show (if 0 ≤ x then pEv (mVal h s k) xs ((if x < 10000 then x else mVal h s k (x - 10000).toNatClampNeg) :: st) else _) = _
          rw [if_pos h0, if_pos h1]
        rw [hsg.1, if_neg (by decide), if_pos (by decide), if_pos (by decide), pIxL (pA1 i) (by omega) (by decide), hsg.2.1, pIx (by omega) (by decide), e1, pA1, pA1, pA1]
        exact hgo x st (i + 1 + 1) hsg.2.2 (by omega) hst hw2 (by omega)
      · rw [rEnc_val h0 h1] at hsg hi
        have hi' : i + ((rEnc xs).length + 1 + 1) ≤ 1200 := hi
        obtain ⟨w, hw12, ew⟩ := pValIx h1 hx
        have e1 : pEv (mVal h s k) (x :: xs) st = pEv (mVal h s k) xs (mVal h s k w :: st) := by
          show (if 0 ≤ x then pEv (mVal h s k) xs ((if x < 10000 then x else mVal h s k (x - 10000).toNatClampNeg) :: st) else _) = _
          rw [if_pos h0, if_neg h1, ew, pN_cl (by omega)]
        rw [hsg.1, if_neg (by decide), if_neg (by decide), if_pos (by decide), if_neg (by decide), pIxL (pA1 i) (by omega) (by decide), hsg.2.1, ew, s_valueOf q hk qs hs hk2 hw12, pCI, pIx (by omega) (by decide), e1, pA1, pA1, pA1]
        exact hgo _ st (i + 1 + 1) hsg.2.2 (by omega) hst hw2 (by omega)
    · rw [if_neg h0] at hw'
      rw [rEnc_op h0] at hsg hi
      have hi' : i + ((rEnc xs).length + 1) ≤ 1200 := hi
      by_cases h3 : x = -3
      · rw [if_pos h3] at hw'
        obtain ⟨hn, hw2⟩ := hw'
        have e3 : σ.1 38 i = 3 := hsg.1.trans (by rw [h3]; rfl)
        match st, hst, hn, hw2, h64 with
        | a :: r, hst, hn, hw2, h64 =>
          have h64' : r.length + 1 ≤ 64 := h64
          have e1 : pEv (mVal h s k) (x :: xs) (a :: r) = pEv (mVal h s k) xs ((if a = 0 then 1 else 0) :: r) := by
            show (if 0 ≤ x then _ else if x = -3 then pEv (mVal h s k) xs ((if a = 0 then 1 else 0) :: r) else _) = _
            rw [if_neg h0, if_pos h3]
          have ep : Int32.ofNat (a :: r).length - 1 = Int32.ofNat r.length := pS1 (by show 1 ≤ r.length + 1; omega)
          rw [e3, if_neg (by decide), if_neg (by decide), if_neg (by decide), if_pos rfl, e1, ep, pIx (by omega) (by decide), hst.1, pIx (by omega) (by decide), pIx (by omega) (by decide), pA1]
          by_cases ha : a = 0
          · rw [if_pos ha, if_pos ha]
            exact hgo 1 r (i + 1) hsg.2 (by omega) hst.2 hw2 h64'
          · rw [if_neg ha, if_neg ha]
            exact hgo 0 r (i + 1) hsg.2 (by omega) hst.2 hw2 h64'
      · rw [if_neg h3] at hw'
        obtain ⟨h9, hn, hw2⟩ := hw'
        obtain ⟨n0, n1, n2, n3⟩ := rOp_ne h9 h0 h3
        match st, hst, hn, hw2, h64 with
        | b :: a :: r, hst, hn, hw2, h64 =>
          have h64' : r.length + 1 + 1 ≤ 64 := h64
          have e1 : pEv (mVal h s k) (x :: xs) (b :: a :: r) = pEv (mVal h s k) xs (pDone x a b :: r) := by
            show (if 0 ≤ x then _ else if x = -3 then _ else pEv (mVal h s k) xs (pDone x a b :: r)) = _
            rw [if_neg h0, if_neg h3]
          have ep : Int32.ofNat (b :: a :: r).length + (-1) = Int32.ofNat (r.length + 1) := pSm1 (by show 1 ≤ r.length + 1 + 1; omega)
          have ep2 : Int32.ofNat (r.length + 1) - 1 = Int32.ofNat r.length := pS1 (by omega)
          have e2 : σ.1 55 (r.length + 1) = b := hst.1
          have e3 : σ.1 55 r.length = a := hst.2.1
          rw [hsg.1, if_neg n0, if_neg n1, if_neg n2, if_neg n3, e1, ep, ep2, pIx (by omega) (by decide), pIx (by omega) (by decide), e2, e3, s_works h9 h0 h3, pCI, pIx (by omega) (by decide), pA1]
          exact hgo _ r (i + 1) hsg.2 (by omega) hst.2.2 hw2 (by omega)
theorem s_worthM (q : rHo σ h) (hk : Hok h) (qs : rSh σ 40 53 54 s) (hs : Sok h s) {k : Nat} (hk2 : k < s.1) {r : Nat} (hr : r < hn h 4) : ∃ σ', Rn G (d + 3) 133 [.ref 33, .int (σ.1 37 r), .int (Int32.ofNat k)] σ = oI (pEv (mVal h s k) (hR h r) []) σ' ∧ pSame [55] σ σ' := by
  obtain ⟨a, e, h1, h2⟩ := q.2.2.2.2.2 r hr
  rw [e_Md_worth, e]
  exact s_worthM_loop hk hs hk2 (hR h r) a [] σ q qs h2 h1 trivial (hk.2.2.2.2 r hr) (by decide)
end PEval
