/-! ===== the reference: which sheets are off, which count ===== -/
/-- all but the reference's scratch is as it was -/
def rS (σ σ' : aH) : Prop := pSame [33, 50, 51, 55, 56, 57, 58, 59] σ σ' ∧ ∀ k, k ≠ 0 → k ≠ 48 → k ≠ 49 → σ'.1 33 k = σ.1 33 k
theorem rS.rfl' {σ : aH} : rS σ σ := ⟨pSame.rfl', fun _ _ _ _ => rfl⟩
theorem rS.trans {σ σ' σ'' : aH} (h : rS σ σ') (h2 : rS σ' σ'') : rS σ σ'' := ⟨h.1.trans h2.1, fun k a b c => (h2.2 k a b c).trans (h.2 k a b c)⟩
theorem rS.si {σ σ' : aH} (h : rS σ σ') {a j : Nat} {x : Int32} (ha : a ∈ [50, 51, 55, 56, 57, 58, 59]) : rS σ (aSI σ' a j x) := by
  have h33 : 33 ≠ a := by
    intro e
    subst e
    exact absurd ha (by decide)
  exact ⟨h.1.si (List.mem_cons_of_mem _ ha), fun k b c e => (congrFun (pSI_ne h33) k).trans (h.2 k b c e)⟩
theorem rS.s33 {σ σ' : aH} (h : rS σ σ') {j : Nat} {x : Int32} (hj : j = 0 ∨ j = 48 ∨ j = 49) : rS σ (aSI σ' 33 j x) := ⟨h.1.si (by decide), fun k a b c => (pSI_of (by omega)).trans (h.2 k a b c)⟩
theorem rS.of {σ σ' : aH} {os : List Nat} (h : pSame os σ σ') (ho : ∀ o ∈ os, o ∈ [50, 51, 55, 56, 57, 58, 59]) : rS σ σ' := ⟨h.mono fun o q => List.mem_cons_of_mem _ (ho o q), fun k _ _ _ => congrFun (h 33 fun q => absurd (ho 33 q) (by decide)).1 k⟩
theorem rS.at {σ σ' : aH} (f : rS σ σ') {o : Nat} (ho : o ∉ [33, 50, 51, 55, 56, 57, 58, 59]) : σ'.1 o = σ.1 o := (f.1 o ho).1
theorem rHo.rs {σ σ' : aH} {h : Ho} (q : rHo σ h) (f : rS σ σ') : rHo σ' h := q.same (fun k hk => f.2 _ (by omega) (by omega) (by omega)) (f.at (by decide)) (f.at (by decide)) (f.at (by decide)) (f.at (by decide)) (f.at (by decide)) (f.at (by decide))
theorem rSh.rs {σ σ' : aH} {s : Sh} (q : rSh σ 40 53 54 s) (f : rS σ σ') : rSh σ' 40 53 54 s := q.same (f.at (by decide)) (f.at (by decide)) (f.at (by decide))
theorem pNN1 {i : Nat} (h : i < 2147483648) : ¬ Int32.ofNat i = -1 := fun e => pN_n0 h (by rw [e]; decide)
/-- what has been gathered -/
def rG (σ : aH) (L : List Nat) : Prop := σ.1 33 49 = Int32.ofNat L.length ∧ ∀ i, i < L.length → σ.1 56 i = Int32.ofNat (L.getD i 0)
theorem pFo_list {α : Type} (f : Nat → α → α) (L : List Nat) : ∀ (k i : Nat) (a : α), i + k = L.length → pFo (fun i a => f (L.getD i 0) a) k i a = (L.drop i).foldl (fun a x => f x a) a
  | 0, i, a, h => by
    rw [List.drop_eq_nil_of_le (by omega)]
    rfl
  | k + 1, i, a, h => by
    have e : L.drop i = L.getD i 0 :: L.drop (i + 1) := by
      rw [List.drop_eq_getElem_cons (by omega), List.getD_eq_getElem?_getD, List.getElem?_eq_getElem (by omega)]
      rfl
    rw [e]
    exact pFo_list f L k (i + 1) _ (by omega)
theorem pFo_list0 {α : Type} (f : Nat → α → α) (L : List Nat) (a : α) : pFo (fun i a => f (L.getD i 0) a) L.length 0 a = L.foldl (fun a x => f x a) a := pFo_list f L L.length 0 a (Nat.zero_add _)
/-- a fold over all that count, as one over the list of them -/
theorem pFo_filter {α : Type} (P : Nat → Prop) {_ : DecidablePred P} (f : Nat → α → α) (a : α) : ∀ n, pFo (fun k a => if P k then f k a else a) n 0 a = ((List.range n).filter fun k => decide (P k)).foldl (fun a x => f x a) a
  | 0 => rfl
  | n + 1 => by
    rw [pFo_snoc, pFo_filter P f a n, List.range_succ, List.filter_append, List.foldl_append, Nat.zero_add]
    by_cases h : P n
    · simp [h]
    · simp [h]
theorem pGetD_mem {L : List Nat} {i : Nat} (h : i < L.length) : L.getD i 0 ∈ L := by
  rw [List.getD_eq_getElem?_getD, List.getElem?_eq_getElem h]
  exact List.getElem_mem h
theorem mCl_mem {h : Ho} {s : Sh} {k : Nat} (hk : k ∈ mCl h s) : k < s.1 ∧ mOff h s k = -1 := by
  have h1 := List.mem_filter.mp hk
  exact ⟨List.mem_range.mp h1.1, of_decide_eq_true h1.2⟩
theorem mCl_len {h : Ho} {s : Sh} : (mCl h s).length ≤ s.1 := by
  have h1 := List.length_filter_le (fun k => decide (mOff h s k = -1)) (List.range s.1)
  rw [List.length_range] at h1
  exact h1
section PGath
variable {G : Nat × (Nat → Int32)} {d : Nat} {σ : aH} {h : Ho} {s : Sh}
theorem s_offBy_loop (hk : Hok h) (hs : Sok h s) {k : Nat} (hk2 : k < s.1) : ∀ (n i : Nat) (σ : aH), i + n = hn h 4 → rHo σ h → rSh σ 40 53 54 s → σ.1 33 12 = Int32.ofNat s.1 → ∃ σ', Lq G (d + 3) M_132 (2, [some (.ref 33), some (.int (Int32.ofNat k)), some (.int (Int32.ofNat i))], [], σ) = oI (if pFirst (mWorth h s k) n i = -1 then (if 0 < mYes h s (s.2 k 16).toNatClampNeg then -2 else -1) else pFirst (mWorth h s k) n i) σ' ∧ pSame [55] σ σ'
  | 0, i, σ, hi, q, qs, e12 => by
    have hi : i = hn h 4 := hi
    have h4 := hk.1.2.2.2.2
    have h60 := hs.1
    obtain ⟨p, hp, hp20, ep⟩ := (hs.2 k hk2).who hk
    have e5 : σ.1 33 5 = Int32.ofNat (hn h 4) := q.1 4 (by decide)
    refine ⟨σ, ?_, pSame.rfl'⟩
    rw [c_Md_offBy_2, e5, hi, if_pos pEnd, pM17, pIxL (i := 17 * k + 15) (pA15 _) (by omega) (by decide), (qs k hk2).2.1, ep, pN_cl (by omega), s_saysYesM q hk qs hs e12, pCI, pB0, show pFirst (mWorth h s k) 0 (hn h 4) = -1 from rfl, if_pos rfl, pOI]
  | n + 1, i, σ, hi, q, qs, e12 => by
    have h4 := hk.1.2.2.2.2
    have e5 : σ.1 33 5 = Int32.ofNat (hn h 4) := q.1 4 (by decide)
    obtain ⟨σ1, r1, f1⟩ := s_worthM (G := G) (d := d) q hk qs hs hk2 (show i < hn h 4 by omega)
    have ew : pEv (mVal h s k) (hR h i) [] = mWorth h s k i := rfl
    rw [ew] at r1
    rw [c_Md_offBy_2, e5, if_neg (pGo (by omega) (by omega)), pIx (by omega) (by decide), r1, pCI, pFirst_succ]
    by_cases h0 : mWorth h s k i = 0
    · have g := rS.of f1 (by decide)
      rw [if_pos h0, if_pos h0, pN_s]
      obtain ⟨σ2, r2, f2⟩ := s_offBy_loop hk hs hk2 n (i + 1) σ1 (by omega) (q.rs g) (qs.rs g) ((g.2 12 (by decide) (by decide) (by decide)).trans e12)
      exact ⟨σ2, r2, f1.trans f2⟩
    · rw [if_neg h0, if_neg h0, if_neg (pNN1 (by omega))]
      exact ⟨σ1, rfl, f1⟩
theorem s_offBy (q : rHo σ h) (hk : Hok h) (qs : rSh σ 40 53 54 s) (hs : Sok h s) (e12 : σ.1 33 12 = Int32.ofNat s.1) {k : Nat} (hk2 : k < s.1) : ∃ σ', Rn G (d + 4) 132 [.ref 33, .int (Int32.ofNat k)] σ = oI (mOff h s k) σ' ∧ pSame [55] σ σ' := by
  rw [e_Md_offBy]
  exact s_offBy_loop hk hs hk2 (hn h 4) 0 σ (Nat.zero_add _) q qs e12
theorem s_gathers (q : rHo σ h) (hk : Hok h) (qs : rSh σ 40 53 54 s) (hs : Sok h s) (e12 : σ.1 33 12 = Int32.ofNat s.1) : ∃ σ', Rn G (d + 5) 131 [.ref 33] σ = oV σ' ∧ rS σ σ' ∧ σ'.1 33 0 = σ.1 33 0 ∧ rG σ' (mCl h s) := by
  have h60 := hs.1
  rw [e_Md_gathers]
  obtain ⟨b, ⟨hb1, hb2, hb3⟩, e⟩ := pLoopR0 (G := G) (d := d + 4) (M := M_131) (fun i a => (7, [some (.ref 33), some (.int (Int32.ofNat i))], [], a)) (fun i a => rS σ a ∧ a.1 33 0 = σ.1 33 0 ∧ rG a ((List.range i).filter fun k => decide (mOff h s k = -1))) s.1 (aSI σ 33 49 0) ⟨rS.rfl'.s33 (by decide), pSI_of (by decide), pSI_at, fun i hi => absurd hi (Nat.not_lt_zero i)⟩ (by
    intro i a hi ⟨ha1, ha2, ha3, ha4⟩
    have ea : a.1 33 12 = Int32.ofNat s.1 := (ha1.2 12 (by decide) (by decide) (by decide)).trans e12
    obtain ⟨σ1, r1, f1⟩ := s_offBy (G := G) (d := d) (q.rs ha1) hk (qs.rs ha1) hs ea hi
    have g := rS.of f1 (by decide)
    have e49 : σ1.1 33 49 = a.1 33 49 := congrFun (f1.at (by decide)) 49
    have e0 : σ1.1 33 0 = a.1 33 0 := congrFun (f1.at (by decide)) 0
    have hl : ((List.range i).filter fun k => decide (mOff h s k = -1)).length ≤ i := by
      have h1 := List.length_filter_le (fun k => decide (mOff h s k = -1)) (List.range i)
      rw [List.length_range] at h1
      exact h1
    rw [c_Md_gathers_7, ea, if_neg (pGo hi (by omega)), r1, pCI]
    by_cases h1 : mOff h s i = -1
    · have el : ((List.range (i + 1)).filter fun k => decide (mOff h s k = -1)) = ((List.range i).filter fun k => decide (mOff h s k = -1)) ++ [i] := by
        rw [List.range_succ, List.filter_append]
        simp [h1]
      refine ⟨aSI (aSI σ1 56 ((List.range i).filter fun k => decide (mOff h s k = -1)).length (Int32.ofNat i)) 33 49 (Int32.ofNat (((List.range i).filter fun k => decide (mOff h s k = -1)).length + 1)), ⟨((ha1.trans g).si (by decide)).s33 (by decide), ?_, ?_⟩, ?_⟩
      · rw [pSI_of (by decide), pSI_ne (by decide), e0, ha2]
      · rw [el]
        refine ⟨?_, ?_⟩
        · rw [pSI_at, List.length_append]
          rfl
        · intro j hj
          rw [List.length_append] at hj
          have hj' : j < ((List.range i).filter fun k => decide (mOff h s k = -1)).length + 1 := hj
          rw [pSI_ne (by decide)]
          by_cases hjl : j = ((List.range i).filter fun k => decide (mOff h s k = -1)).length
          · subst hjl
            rw [pSI_at]
            simp
          · rw [pSI_of hjl, f1.at (by decide), ha4 j (by omega)]
            rw [List.getD_eq_getElem?_getD, List.getD_eq_getElem?_getD, List.getElem?_append_left (by omega)]
      · rw [if_pos h1, e49, ha3, pIx (by omega) (by decide), pN_s, pN_s]
    · have el : ((List.range (i + 1)).filter fun k => decide (mOff h s k = -1)) = ((List.range i).filter fun k => decide (mOff h s k = -1)) := by
        rw [List.range_succ, List.filter_append]
        simp [h1]
      refine ⟨σ1, ⟨ha1.trans g, e0.trans ha2, ?_, ?_⟩, ?_⟩
      · rw [el, e49, ha3]
      · intro j hj
        rw [el] at hj ⊢
        rw [f1.at (by decide), ha4 j hj]
      · rw [if_neg h1, pN_s])
  have e' : Lq G (d + 4) M_131 (7, [some (.ref 33), some (.int 0)], [], aSI σ 33 49 0) = Lq G (d + 4) M_131 (7, [some (.ref 33), some (.int (Int32.ofNat s.1))], [], b) := e
  have e13 : b.1 33 12 = Int32.ofNat s.1 := (hb1.2 12 (by decide) (by decide) (by decide)).trans e12
  refine ⟨b, ?_, hb1, hb2, hb3⟩
  rw [e', c_Md_gathers_7, e13, if_pos pEnd]
/-- what counts: the class's question -/
theorem s_counts (v : cSv σ h s) (h60 : s.1 ≤ 60) {k : Nat} (hk : k < s.1) : Rn G (d + 2) 220 [.ref 17, .int (Int32.ofNat k)] σ = oI (if mOff h s k = -1 then 1 else 0) σ := by
  rw [e_Rh_Sieve_counts, s_cell (r := 18) (n := 60) (i := k) rfl rfl (by omega) (by decide), pCI, (v.1 k hk).1, pOI]
theorem s_feltOf (v : cSv σ h s) (h60 : s.1 ≤ 60) {k : Nat} (hk : k < s.1) : Rn G (d + 2) 121 [.ref 17, .int (Int32.ofNat k)] σ = oI (mSum h s k false) σ := by
  rw [e_Rh_Sieve_feltOf, s_cell (r := 19) (n := 60) (i := k) rfl rfl (by omega) (by decide), pCI, (v.1 k hk).2.1]
theorem s_saidOf (v : cSv σ h s) (h60 : s.1 ≤ 60) {k : Nat} (hk : k < s.1) : Rn G (d + 2) 122 [.ref 17, .int (Int32.ofNat k)] σ = oI (mSum h s k true) σ := by
  rw [e_Rh_Sieve_saidOf, s_cell (r := 20) (n := 60) (i := k) rfl rfl (by omega) (by decide), pCI, (v.1 k hk).2.2]
theorem s_offByC (v : cSv σ h s) (h60 : s.1 ≤ 60) {k : Nat} (hk : k < s.1) : Rn G (d + 2) 208 [.ref 17, .int (Int32.ofNat k)] σ = oI (mOff h s k) σ := by
  rw [e_Rh_Sieve_offBy, s_cell (r := 18) (n := 60) (i := k) rfl rfl (by omega) (by decide), pCI, (v.1 k hk).1]
theorem s_saysYesC (v : cSv σ h s) {p : Nat} (hp : p < 20) : Rn G (d + 2) 128 [.ref 17, .int (Int32.ofNat p)] σ = oI (if 0 < mYes h s p then 1 else 0) σ := by
  rw [e_Rh_Sieve_saysYes, s_cell (r := 21) (n := 20) (i := p) rfl rfl hp (by decide), pCI, v.2.1 p hp]
  by_cases h1 : mYes h s p ≤ 0
  · rw [if_pos h1, if_neg (fun h2 => absurd h1 (pNotLe.mpr h2))]
  · rw [if_neg h1, if_pos (pNotLe.mp h1)]
end PGath
