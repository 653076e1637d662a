/-! ===== share ===== -/
theorem pTo64_add {a b : Int32} (h1 : -2147483648 ≤ a.toInt + b.toInt) (h2 : a.toInt + b.toInt < 2147483648) : (a + b).toInt64 = a.toInt64 + b.toInt64 := by
  apply Int64.toInt_inj.mp
  rw [Int32.toInt_toInt64, pI_add h1 h2, pL_add (by rw [Int32.toInt_toInt64, Int32.toInt_toInt64]; omega) (by rw [Int32.toInt_toInt64, Int32.toInt_toInt64]; omega), Int32.toInt_toInt64, Int32.toInt_toInt64]
theorem pTo64_ne {x : Int32} (h : ¬ x ≤ 0) : ¬ x.toInt64 = 0 := fun e => h (by
  have e1 := congrArg Int64.toInt e
  rw [Int32.toInt_toInt64] at e1
  have e0 : (0 : Int64).toInt = 0 := rfl
  rw [pLe, show (0 : Int32).toInt = 0 from rfl]
  omega)
section PShare
variable {G : Nat × (Nat → Int32)} {d : Nat} {σ : aH} {m : St}
def mSrF (h : Ho) (s : Sh) (c : Nat) (r : Int32) (k : Nat) (q : Int32 × Int32) : Int32 × Int32 := if hS h (6 * mAt s k + c) = r then (q.1 + 1, q.2 + s.2 k 12) else q
def mSrG (h : Ho) (s : Sh) (c : Nat) (r : Int32) (k : Nat) (q : Int64 × Int32) : Int64 × Int32 := if hS h (6 * mAt s k + c) = r then (q.1 + (s.2 k 12).toInt64, q.2 + 1) else q
def mSr (h : Ho) (s : Sh) (c : Nat) (r : Int32) : Int32 × Int32 := (mCl h s).foldl (fun q k => mSrF h s c r k q) (0, 0)
theorem mSr_eq {h : Ho} {s : Sh} {c : Nat} {r : Int32} : ∀ (L : List Nat) (n t : Int32) (B : Int), (∀ k, k ∈ L → pBd (s.2 k 12) (-999) 999) → pBd t (-B) B → B + 999 * (L.length : Int) ≤ 100000 → L.foldl (fun q k => mSrG h s c r k q) (t.toInt64, n) = ((L.foldl (fun q k => mSrF h s c r k q) (n, t)).2.toInt64, (L.foldl (fun q k => mSrF h s c r k q) (n, t)).1)
  | [], _, _, _, _, _, _ => rfl
  | k :: L, n, t, B, hL, ht, hB => by
    have el : (k :: L).length = L.length + 1 := rfl
    rw [el] at hB
    have b := hL k List.mem_cons_self
    rw [List.foldl_cons, List.foldl_cons]
    by_cases q : hS h (6 * mAt s k + c) = r
    · rw [show mSrG h s c r k (t.toInt64, n) = (t.toInt64 + (s.2 k 12).toInt64, n + 1) from if_pos q, show mSrF h s c r k (n, t) = (n + 1, t + s.2 k 12) from if_pos q]
      obtain ⟨b1, b2⟩ := b
      obtain ⟨t1, t2⟩ := ht
      rw [← pTo64_add (by omega) (by omega)]
      have e := pI_add (a := t) (b := s.2 k 12) (by omega) (by omega)
      exact mSr_eq L (n + 1) (t + s.2 k 12) (B + 999) (fun j hj => hL j (List.mem_cons_of_mem _ hj)) ⟨by rw [e]; omega, by rw [e]; omega⟩ (by omega)
    · rw [show mSrG h s c r k (t.toInt64, n) = (t.toInt64, n) from if_neg q, show mSrF h s c r k (n, t) = (n, t) from if_neg q]
      exact mSr_eq L n t (B + 999) (fun j hj => hL j (List.mem_cons_of_mem _ hj)) (ht.mono (by omega) (by omega)) (by omega)
theorem s_shareC (q : cHo σ m.1) (ho : okAll m) (qs : cSh σ 13 m.2.1) (v : cSv σ m.1 m.2.1) {c : Nat} (hc : c < 6) {x y r : Int32} (hy : y = Int32.ofNat c) (hr : x - x / 3 * 3 = r) : Lq G (d + 3) M_271 (51, [some (.ref 0), some (.int x), some (.int y), some (.int 0), some (.int 0), some (.int 0)], [], σ) = if (mSr m.1 m.2.1 c r).1 ≤ 0 then oX 1 σ else oI (pFloor (mSr m.1 m.2.1 c r).2.toInt64 (mSr m.1 m.2.1 c r).1.toInt64).toInt32 σ := by
  have hk := ho.1
  have h60 := ho.2.1.1
  have e := pLoop0 (G := G) (d := d + 3) (M := M_271) (fun i (a : Int32 × Int32) => (51, [some (.ref 0), some (.int x), some (.int y), some (.int a.1), some (.int a.2), some (.int (Int32.ofNat i))], [], σ)) (fun k a => if mOff m.1 m.2.1 k = -1 then mSrF m.1 m.2.1 c r k a else a) m.2.1.1 (0, 0) (by
    intro i a hi
    obtain ⟨e1, e2, e3⟩ := mAt_ok hk ho.2.1 hi
    show Lq G (d + 3) M_271 (51, [some (.ref 0), some (.int x), some (.int y), some (.int a.1), some (.int a.2), some (.int (Int32.ofNat i))], [], σ) = Lq G (d + 3) M_271 (51, [some (.ref 0), some (.int x), some (.int y), some (.int (if mOff m.1 m.2.1 i = -1 then mSrF m.1 m.2.1 c r i a else a).1), some (.int (if mOff m.1 m.2.1 i = -1 then mSrF m.1 m.2.1 c r i a else a).2), some (.int (Int32.ofNat (i + 1)))], [], σ)
    rw [c_Rh_share_51, qs.1, if_neg (pGo hi (by omega)), s_counts v h60 hi, pCI, pB0]
    by_cases h1 : mOff m.1 m.2.1 i = -1
    · rw [if_pos h1, if_pos h1, s_getN (x := 17) (c := 17) qs h60 hi (by decide) rfl, pCI, e1, s_toldS (i := mAt m.2.1 i) (w := c) rfl hy e3 hc, pCI, q.2.2.1 _ e2 c hc, hr, s_getN (x := 12) (c := 12) qs h60 hi (by decide) rfl, pCI, pN_s]
      by_cases h2 : hS m.1 (6 * mAt m.2.1 i + c) = r
      · rw [if_pos h2, show mSrF m.1 m.2.1 c r i a = (a.1 + 1, a.2 + m.2.1.2 i 12) from if_pos h2]
      · rw [if_neg h2, show mSrF m.1 m.2.1 c r i a = a from if_neg h2]
    · rw [if_neg h1, if_neg h1, pN_s])
  rw [pFo_filter (fun k => mOff m.1 m.2.1 k = -1) (mSrF m.1 m.2.1 c r)] at e
  have e' : Lq G (d + 3) M_271 (51, [some (.ref 0), some (.int x), some (.int y), some (.int 0), some (.int 0), some (.int 0)], [], σ) = Lq G (d + 3) M_271 (51, [some (.ref 0), some (.int x), some (.int y), some (.int (mSr m.1 m.2.1 c r).1), some (.int (mSr m.1 m.2.1 c r).2), some (.int (Int32.ofNat m.2.1.1))], [], σ) := e
  rw [e', c_Rh_share_51, qs.1, if_pos pEnd, s_allow0, pXVt, s_allow1, pXV]
  by_cases h0 : (mSr m.1 m.2.1 c r).1 ≤ 0
  · rw [if_pos h0, if_pos h0]
  · rw [if_neg h0, if_neg h0, s_floorC (pTo64_ne h0), pCL]
theorem s_shareM (q : rHo σ m.1) (ho : okAll m) (qs : rSh σ 40 53 54 m.2.1) (g : rG σ (mCl m.1 m.2.1)) (h0 : σ.1 33 0 = 0) {c : Nat} {x r : Int32} (hx : ((3 : Int32) ≤ x ∧ c = 2 ∧ x - 3 = r) ∨ (¬ (3 : Int32) ≤ x ∧ c = 3 ∧ x = r)) : Lq G (d + 1) M_272 (33, [some (.ref 33), some (.int x), some (.long 0), none, some (.int 0), some (.int 0), none], [], σ) = if (mSr m.1 m.2.1 c r).1 ≤ 0 then oI 0 (aSI σ 33 0 2) else oI (pFloor (mSr m.1 m.2.1 c r).2.toInt64 (mSr m.1 m.2.1 c r).1.toInt64).toInt32 σ := by
  have hk := ho.1
  have h60 := ho.2.1.1
  have hl := mCl_len (h := m.1) (s := m.2.1)
  have e := pLoop0 (G := G) (d := d + 1) (M := M_272) (fun i (a : Int64 × Int32) => (33, [some (.ref 33), some (.int x), some (.long a.1), none, some (.int a.2), some (.int (Int32.ofNat i)), none], [], σ)) (fun i a => mSrG m.1 m.2.1 c r ((mCl m.1 m.2.1).getD i 0) a) (mCl m.1 m.2.1).length (0, 0) (by
    intro i a hi
    obtain ⟨g1, g2⟩ := g.elem hi
    obtain ⟨e1, e2, e3⟩ := mAt_ok hk ho.2.1 g1
    show Lq G (d + 1) M_272 (33, [some (.ref 33), some (.int x), some (.long a.1), none, some (.int a.2), some (.int (Int32.ofNat i)), none], [], σ) = Lq G (d + 1) M_272 (33, [some (.ref 33), some (.int x), some (.long (mSrG m.1 m.2.1 c r ((mCl m.1 m.2.1).getD i 0) a).1), none, some (.int (mSrG m.1 m.2.1 c r ((mCl m.1 m.2.1).getD i 0) a).2), some (.int (Int32.ofNat (i + 1))), none], [], σ)
    rw [c_Md_share_33, g.1, if_neg (pGo hi (by omega)), pIx (by omega) (by decide), g2, s_inOf qs h60 g1, pCI, e1, pM6]
    rcases hx with ⟨h3, rfl, hr⟩ | ⟨h3, rfl, hr⟩
    · rw [if_pos h3, pA2, pIx (by omega) (by decide), q.2.2.1 _ e2 2 (by decide), hr, pIx (by omega) (by decide), g2, s_shownOf qs h60 g1, pCI, pN_s]
      by_cases h2 : hS m.1 (6 * mAt m.2.1 ((mCl m.1 m.2.1).getD i 0) + 2) = r
      · rw [if_pos h2, show mSrG m.1 m.2.1 2 r ((mCl m.1 m.2.1).getD i 0) a = (a.1 + (m.2.1.2 ((mCl m.1 m.2.1).getD i 0) 12).toInt64, a.2 + 1) from if_pos h2]
      · rw [if_neg h2, show mSrG m.1 m.2.1 2 r ((mCl m.1 m.2.1).getD i 0) a = a from if_neg h2]
    · rw [if_neg h3, pA3, pIx (by omega) (by decide), q.2.2.1 _ e2 3 (by decide), hr, pIx (by omega) (by decide), g2, s_shownOf qs h60 g1, pCI, pN_s]
      by_cases h2 : hS m.1 (6 * mAt m.2.1 ((mCl m.1 m.2.1).getD i 0) + 3) = r
      · rw [if_pos h2, show mSrG m.1 m.2.1 3 r ((mCl m.1 m.2.1).getD i 0) a = (a.1 + (m.2.1.2 ((mCl m.1 m.2.1).getD i 0) 12).toInt64, a.2 + 1) from if_pos h2]
      · rw [if_neg h2, show mSrG m.1 m.2.1 3 r ((mCl m.1 m.2.1).getD i 0) a = a from if_neg h2])
  rw [pFo_list0 (mSrG m.1 m.2.1 c r)] at e
  have eq := mSr_eq (h := m.1) (s := m.2.1) (c := c) (r := r) (mCl m.1 m.2.1) 0 0 0 (fun k hk => (ho.2.1.2 k (mCl_mem hk).1).2.2.2.1) ⟨by decide, by decide⟩ (by omega)
  rw [show (0 : Int32).toInt64 = 0 from rfl] at eq
  rw [eq] at e
  have e' : Lq G (d + 1) M_272 (33, [some (.ref 33), some (.int x), some (.long 0), none, some (.int 0), some (.int 0), none], [], σ) = Lq G (d + 1) M_272 (33, [some (.ref 33), some (.int x), some (.long (mSr m.1 m.2.1 c r).2.toInt64), none, some (.int (mSr m.1 m.2.1 c r).1), some (.int (Int32.ofNat (mCl m.1 m.2.1).length)), none], [], σ) := e
  rw [e', c_Md_share_33, g.1, if_pos pEnd, s_right0 h0 (by decide), pCI, if_pos rfl, s_right1 h0, pCI, if_neg (show ¬ (1 : Int32) = 0 by decide)]
  by_cases h0 : (mSr m.1 m.2.1 c r).1 ≤ 0
  · rw [if_pos h0, if_pos h0]
  · rw [if_neg h0, if_neg h0, s_floorM (pTo64_ne h0), pCL]
theorem a_share (ho : okAll m) (x : Int32) : Ask G 271 272 [.int x] [(0, 1), (1, 2)] m := by
  have go : ∀ (c : Nat) (r : Int32), c < 6 → x - x / 3 * 3 = r → (((3 : Int32) ≤ x ∧ c = 2 ∧ x - 3 = r) ∨ (¬ (3 : Int32) ≤ x ∧ c = 3 ∧ x = r)) → ¬ x < 0 → ¬ 5 < x → Ask G 271 272 [.int x] [(0, 1), (1, 2)] m := by
    intro c r hc hr hx n0 n5
    have cls : ∀ σ, Iv σ m → ∃ σ', pSame [17, 18, 19, 20, 21, 22, 23] σ σ' ∧ Rn G 60 271 [.ref 0, .int x] σ = if (mSr m.1 m.2.1 c r).1 ≤ 0 then oX 1 σ' else oI (pFloor (mSr m.1 m.2.1 c r).2.toInt64 (mSr m.1 m.2.1 c r).1.toInt64).toInt32 σ' := by
      intro σ I
      obtain ⟨σ1, r1, f1, v1⟩ := s_siftI (G := G) (d := 52) I
      refine ⟨σ1, f1, ?_⟩
      rw [e_Rh_share, if_neg n0, if_neg n5, s_demand1, pXV, r1, pCV]
      rcases hx with ⟨h3, rfl, _⟩ | ⟨h3, rfl, _⟩
      · rw [if_pos h3]
        exact s_shareC (G := G) (d := 56) (y := 2) (I.2.1.1.ps f1 (by decide) (by decide) (by decide)) ho (I.2.1.2.1.ps f1 (by decide) (by decide)) v1 hc rfl hr
      · rw [if_neg h3]
        exact s_shareC (G := G) (d := 56) (y := 3) (I.2.1.1.ps f1 (by decide) (by decide) (by decide)) ho (I.2.1.2.1.ps f1 (by decide) (by decide)) v1 hc rfl hr
    have rfr : ∀ σ, Iv σ m → ∃ σ', rS σ σ' ∧ σ'.1 33 0 = 0 ∧ Rn G 60 272 [.ref 33, .int x] σ = if (mSr m.1 m.2.1 c r).1 ≤ 0 then oI 0 (aSI σ' 33 0 2) else oI (pFloor (mSr m.1 m.2.1 c r).2.toInt64 (mSr m.1 m.2.1 c r).1.toInt64).toInt32 σ' := by
      intro σ I
      obtain ⟨σ1, r1, f1, g1, v1⟩ := s_gatherI (G := G) (d := 54) I
      refine ⟨σ1, f1, g1, ?_⟩
      rw [e_Md_share, s_within, pCI, if_pos ⟨pNotLt.mp n0, pNotLt.mp n5⟩, s_r1, pCI, if_neg (show ¬ (1 : Int32) = 0 by decide), r1, pCV]
      exact s_shareM (G := G) (d := 58) (I.2.2.1.rs f1) ho (I.2.2.2.1.1.rs f1) v1 g1 hx
    by_cases h0 : (mSr m.1 m.2.1 c r).1 ≤ 0
    · refine Or.inr ⟨(1, 2), by decide, fun σ I => ?_, fun σ I => ?_⟩
      · obtain ⟨σ1, f1, r1⟩ := cls σ I
        rw [if_pos h0] at r1
        exact ⟨σ1, r1, K.ps f1 (by decide)⟩
      · obtain ⟨σ1, f1, g1, r1⟩ := rfr σ I
        rw [if_pos h0] at r1
        exact rExS r1 (f1.s33 (by decide)) pSI_at
    · refine Or.inl ⟨(pFloor (mSr m.1 m.2.1 c r).2.toInt64 (mSr m.1 m.2.1 c r).1.toInt64).toInt32, fun σ I => ?_, fun σ I => ?_⟩
      · obtain ⟨σ1, f1, r1⟩ := cls σ I
        rw [if_neg h0] at r1
        exact cOkS r1 f1 (by decide)
      · obtain ⟨σ1, f1, g1, r1⟩ := rfr σ I
        rw [if_neg h0] at r1
        exact rOkS r1 f1 g1
  rcases rngI (x := x) (n := 6) (by decide) with ⟨w, hw, rfl⟩ | hx
  · rcases (show w = 0 ∨ w = 1 ∨ w = 2 ∨ w = 3 ∨ w = 4 ∨ w = 5 by omega) with rfl | rfl | rfl | rfl | rfl | rfl
    · exact go 3 (Int32.ofNat 0) (by decide) (by decide) (Or.inr ⟨by decide, rfl, rfl⟩) (by decide) (by decide)
    · exact go 3 (Int32.ofNat 1) (by decide) (by decide) (Or.inr ⟨by decide, rfl, rfl⟩) (by decide) (by decide)
    · exact go 3 (Int32.ofNat 2) (by decide) (by decide) (Or.inr ⟨by decide, rfl, rfl⟩) (by decide) (by decide)
    · exact go 2 0 (by decide) (by decide) (Or.inl ⟨by decide, rfl, by decide⟩) (by decide) (by decide)
    · exact go 2 1 (by decide) (by decide) (Or.inl ⟨by decide, rfl, by decide⟩) (by decide) (by decide)
    · exact go 2 2 (by decide) (by decide) (Or.inl ⟨by decide, rfl, by decide⟩) (by decide) (by decide)
  · refine Or.inr ⟨(0, 1), by decide, fun σ I => cExI ?_, fun σ I => rExI (v := 0) ?_⟩
    · rw [e_Rh_share, s_demand0, pXVt]
      by_cases h0 : x < 0
      · rw [if_pos h0]
      · rw [if_neg h0, if_pos (pBad (c := 5) (b := 5) rfl (by decide) (hx.resolve_left h0))]
    · rw [e_Md_share, s_within, pCI, if_neg (pOut (c := 5) (b := 5) rfl (by decide) hx), s_r0 (by decide), pCI, if_pos rfl]
end PShare
