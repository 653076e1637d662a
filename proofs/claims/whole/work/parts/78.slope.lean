/-! ===== slope, share ===== -/
section PSlope
variable {G : Nat × (Nat → Int32)} {d : Nat} {σ : aH} {m : St}
/-- where a sheet's sitting is -/
def mAt (s : Sh) (k : Nat) : Nat := (s.2 k 17).toNatClampNeg
theorem mAt_ok {h : Ho} {s : Sh} (hk : Hok h) (hs : Sok h s) {k : Nat} (h1 : k < s.1) : s.2 k 17 = Int32.ofNat (mAt s k) ∧ mAt s k < hn h 1 ∧ mAt s k < 20 := by
  obtain ⟨p, hp, hp20, ep⟩ := (hs.2 k h1).at hk
  unfold mAt
  rw [ep, pN_cl (by omega)]
  exact ⟨rfl, hp, hp20⟩
theorem rG.elem {h : Ho} {s : Sh} (g : rG σ (mCl h s)) {i : Nat} (hi : i < (mCl h s).length) : (mCl h s).getD i 0 < s.1 ∧ σ.1 56 i = Int32.ofNat ((mCl h s).getD i 0) := ⟨(mCl_mem (pGetD_mem hi)).1, g.2 i hi⟩
theorem s_inOf {s : Sh} (qs : rSh σ 40 53 54 s) (h60 : s.1 ≤ 60) {k : Nat} (hk : k < s.1) : Rn G (d + 1) 241 [.ref 33, .int (Int32.ofNat k)] σ = oI (s.2 k 17) σ := by
  rw [e_Md_inOf, pM17, pA16, pIx (by omega) (by decide), (qs k hk).2.2.1]
theorem s_shownOf {s : Sh} (qs : rSh σ 40 53 54 s) (h60 : s.1 ≤ 60) {k : Nat} (hk : k < s.1) : Rn G (d + 1) 228 [.ref 33, .int (Int32.ofNat k)] σ = oI (s.2 k 12) σ := by
  rw [e_Md_shownOf, pM17, pA12, pIx (by omega) (by decide), (qs k hk).1 12 (by decide)]
def mSlF (h : Ho) (s : Sh) (w k : Nat) (q : Int64 × Int64 × Int64 × Int64) : Int64 × Int64 × Int64 × Int64 := (q.1 + (hS h (6 * mAt s k + w)).toInt64, q.2.1 + (s.2 k 12).toInt64, q.2.2.1 + (hS h (6 * mAt s k + w)).toInt64 * (hS h (6 * mAt s k + w)).toInt64, q.2.2.2 + (hS h (6 * mAt s k + w)).toInt64 * (s.2 k 12).toInt64)
def mSl (h : Ho) (s : Sh) (w : Nat) : Int64 × Int64 × Int64 × Int64 := (mCl h s).foldl (fun q k => mSlF h s w k q) (0, 0, 0, 0)
def mSlB (h : Ho) (s : Sh) (w : Nat) : Int64 := (Int32.ofNat (mCl h s).length).toInt64 * (mSl h s w).2.2.1 - (mSl h s w).1 * (mSl h s w).1
def mSlA (h : Ho) (s : Sh) (w : Nat) : Int64 := ((Int32.ofNat (mCl h s).length).toInt64 * (mSl h s w).2.2.2 - (mSl h s w).1 * (mSl h s w).2.1) * 1000
theorem s_slopeC (q : cHo σ m.1) (ho : okAll m) (qs : cSh σ 13 m.2.1) (v : cSv σ m.1 m.2.1) {w : Nat} (hw : w < 6) : Lq G (d + 3) M_265 (46, [some (.ref 0), some (.int (Int32.ofNat w)), some (.long 0), none, some (.long 0), none, some (.long 0), none, some (.long 0), none, some (.int 0), none, none, none, none], [], σ) = if mSlB m.1 m.2.1 w = 0 then oX 1 σ else oI (pFloor (mSlA m.1 m.2.1 w) (mSlB m.1 m.2.1 w)).toInt32 σ := by
  have hk := ho.1
  have h60 := ho.2.1.1
  have e := pLoop0 (G := G) (d := d + 3) (M := M_265) (fun i (a : Int64 × Int64 × Int64 × Int64) => (46, [some (.ref 0), some (.int (Int32.ofNat w)), some (.long a.1), none, some (.long a.2.1), none, some (.long a.2.2.1), none, some (.long a.2.2.2), none, some (.int (Int32.ofNat i)), none, none, none, none], [], σ)) (fun k a => if mOff m.1 m.2.1 k = -1 then mSlF m.1 m.2.1 w k a else a) m.2.1.1 (0, 0, 0, 0) (by
    intro i a hi
    obtain ⟨e1, e2, e3⟩ := mAt_ok hk ho.2.1 hi
    show Lq G (d + 3) M_265 (46, [some (.ref 0), some (.int (Int32.ofNat w)), some (.long a.1), none, some (.long a.2.1), none, some (.long a.2.2.1), none, some (.long a.2.2.2), none, some (.int (Int32.ofNat i)), none, none, none, none], [], σ) = Lq G (d + 3) M_265 (46, [some (.ref 0), some (.int (Int32.ofNat w)), some (.long (if mOff m.1 m.2.1 i = -1 then mSlF m.1 m.2.1 w i a else a).1), none, some (.long (if mOff m.1 m.2.1 i = -1 then mSlF m.1 m.2.1 w i a else a).2.1), none, some (.long (if mOff m.1 m.2.1 i = -1 then mSlF m.1 m.2.1 w i a else a).2.2.1), none, some (.long (if mOff m.1 m.2.1 i = -1 then mSlF m.1 m.2.1 w i a else a).2.2.2), none, some (.int (Int32.ofNat (i + 1))), none, none, none, none], [], σ)
    rw [c_Rh_slope_46, qs.1, if_neg (pGo hi (by omega)), s_counts v h60 hi, pCI, pB0]
    by_cases h1 : mOff m.1 m.2.1 i = -1
    · rw [if_pos h1, if_pos h1, s_getN (x := 17) (c := 17) qs h60 hi (by decide) rfl, pCI, e1, s_toldS (i := mAt m.2.1 i) (w := w) rfl rfl e3 hw, pCI, q.2.2.1 _ e2 w hw, s_getN (x := 12) (c := 12) qs h60 hi (by decide) rfl, pCI, pN_s]
      rfl
    · rw [if_neg h1, if_neg h1, pN_s])
  rw [pFo_filter (fun k => mOff m.1 m.2.1 k = -1) (mSlF m.1 m.2.1 w)] at e
  have e' : Lq G (d + 3) M_265 (46, [some (.ref 0), some (.int (Int32.ofNat w)), some (.long 0), none, some (.long 0), none, some (.long 0), none, some (.long 0), none, some (.int 0), none, none, none, none], [], σ) = Lq G (d + 3) M_265 (46, [some (.ref 0), some (.int (Int32.ofNat w)), some (.long (mSl m.1 m.2.1 w).1), none, some (.long (mSl m.1 m.2.1 w).2.1), none, some (.long (mSl m.1 m.2.1 w).2.2.1), none, some (.long (mSl m.1 m.2.1 w).2.2.2), none, some (.int (Int32.ofNat m.2.1.1)), none, none, none, none], [], σ) := e
  rw [e', c_Rh_slope_46, qs.1, if_pos pEnd, v.2.2, s_allow0, pXVt, s_allow1, pXV, v.2.2]
  have eB : (Int32.ofNat (mCl m.1 m.2.1).length).toInt64 * (mSl m.1 m.2.1 w).2.2.1 - (mSl m.1 m.2.1 w).1 * (mSl m.1 m.2.1 w).1 = mSlB m.1 m.2.1 w := rfl
  have eA : ((Int32.ofNat (mCl m.1 m.2.1).length).toInt64 * (mSl m.1 m.2.1 w).2.2.2 - (mSl m.1 m.2.1 w).1 * (mSl m.1 m.2.1 w).2.1) * 1000 = mSlA m.1 m.2.1 w := rfl
  rw [eB, eA]
  by_cases h0 : mSlB m.1 m.2.1 w = 0
  · rw [if_pos ((lg_cmp_eq _ _).mpr h0), if_pos h0]
  · rw [if_neg (fun h => h0 ((lg_cmp_eq _ _).mp h)), if_neg h0, s_floorC h0, pCL]
theorem s_slopeM (q : rHo σ m.1) (ho : okAll m) (qs : rSh σ 40 53 54 m.2.1) (g : rG σ (mCl m.1 m.2.1)) (h0 : σ.1 33 0 = 0) {w : Nat} (hw : w < 6) : Lq G (d + 1) M_268 (47, [some (.ref 33), some (.int (Int32.ofNat w)), some (.long 0), none, some (.long 0), none, some (.long 0), none, some (.long 0), none, some (.int 0), none, none, none, none], [], σ) = if mSlB m.1 m.2.1 w = 0 then oI 0 (aSI σ 33 0 2) else oI (pFloor (mSlA m.1 m.2.1 w) (mSlB m.1 m.2.1 w)).toInt32 σ := by
  have hk := ho.1
  have h60 := ho.2.1.1
  have hl := mCl_len (h := m.1) (s := m.2.1)
  have e := pLoop0 (G := G) (d := d + 1) (M := M_268) (fun i (a : Int64 × Int64 × Int64 × Int64) => (47, [some (.ref 33), some (.int (Int32.ofNat w)), some (.long a.1), none, some (.long a.2.1), none, some (.long a.2.2.1), none, some (.long a.2.2.2), none, some (.int (Int32.ofNat i)), none, none, none, none], [], σ)) (fun i a => mSlF m.1 m.2.1 w ((mCl m.1 m.2.1).getD i 0) a) (mCl m.1 m.2.1).length (0, 0, 0, 0) (by
    intro i a hi
    obtain ⟨g1, g2⟩ := g.elem hi
    obtain ⟨e1, e2, e3⟩ := mAt_ok hk ho.2.1 g1
    show Lq G (d + 1) M_268 (47, [some (.ref 33), some (.int (Int32.ofNat w)), some (.long a.1), none, some (.long a.2.1), none, some (.long a.2.2.1), none, some (.long a.2.2.2), none, some (.int (Int32.ofNat i)), none, none, none, none], [], σ) = _
    rw [c_Md_slope_47, g.1, if_neg (pGo hi (by omega)), pIx (by omega) (by decide), g2, s_inOf qs h60 g1, pCI, e1, pM6, pA, pIx (by omega) (by decide), pIx (by omega) (by decide), g2, s_shownOf qs h60 g1, pCI, q.2.2.1 _ e2 w hw, pN_s]
    rfl)
  rw [pFo_list0 (mSlF m.1 m.2.1 w)] at e
  have e' : Lq G (d + 1) M_268 (47, [some (.ref 33), some (.int (Int32.ofNat w)), some (.long 0), none, some (.long 0), none, some (.long 0), none, some (.long 0), none, some (.int 0), none, none, none, none], [], σ) = Lq G (d + 1) M_268 (47, [some (.ref 33), some (.int (Int32.ofNat w)), some (.long (mSl m.1 m.2.1 w).1), none, some (.long (mSl m.1 m.2.1 w).2.1), none, some (.long (mSl m.1 m.2.1 w).2.2.1), none, some (.long (mSl m.1 m.2.1 w).2.2.2), none, some (.int (Int32.ofNat (mCl m.1 m.2.1).length)), none, none, none, none], [], σ) := e
  rw [e', c_Md_slope_47, g.1, if_pos pEnd, s_right0 h0 (by decide), pCI, if_pos rfl, s_right1 h0, pCI, if_neg (show ¬ (1 : Int32) = 0 by decide), g.1, Int64.mul_comm 1000]
  have eB : (Int32.ofNat (mCl m.1 m.2.1).length).toInt64 * (mSl m.1 m.2.1 w).2.2.1 - (mSl m.1 m.2.1 w).1 * (mSl m.1 m.2.1 w).1 = mSlB m.1 m.2.1 w := rfl
  have eA : ((Int32.ofNat (mCl m.1 m.2.1).length).toInt64 * (mSl m.1 m.2.1 w).2.2.2 - (mSl m.1 m.2.1 w).1 * (mSl m.1 m.2.1 w).2.1) * 1000 = mSlA m.1 m.2.1 w := rfl
  rw [eB, eA]
  by_cases h0 : mSlB m.1 m.2.1 w = 0
  · rw [if_pos ((lg_cmp_eq _ _).mpr h0), if_pos h0]
  · rw [if_neg (fun h => h0 ((lg_cmp_eq _ _).mp h)), if_neg h0, s_floorM h0, pCL]
theorem a_slope (ho : okAll m) (x : Int32) : Ask G 265 268 [.int x] [(0, 1), (1, 2)] m := by
  have go : ∀ w : Nat, (w = 0 ∨ w = 1) → x = Int32.ofNat w → Ask G 265 268 [.int x] [(0, 1), (1, 2)] m := by
    intro w hw ex
    have hw6 : w < 6 := by omega
    have cls : ∀ σ, Iv σ m → ∃ σ', pSame [17, 18, 19, 20, 21, 22, 23] σ σ' ∧ Rn G 60 265 [.ref 0, .int x] σ = if mSlB m.1 m.2.1 w = 0 then oX 1 σ' else oI (pFloor (mSlA m.1 m.2.1 w) (mSlB m.1 m.2.1 w)).toInt32 σ' := by
      intro σ I
      obtain ⟨σ1, r1, f1, v1⟩ := s_siftI (G := G) (d := 52) I
      have e := s_slopeC (G := G) (d := 56) (I.2.1.1.ps f1 (by decide) (by decide) (by decide)) ho (I.2.1.2.1.ps f1 (by decide) (by decide)) v1 hw6
      refine ⟨σ1, f1, ?_⟩
      rw [← e, ← ex, e_Rh_slope, s_demand1, pXV, r1, pCV]
      rcases hw with rfl | rfl
      · rw [if_pos (show x = 0 from ex)]
      · rw [if_neg (by rw [ex]; decide), if_pos (show x = 1 from ex)]
    have rfr : ∀ σ, Iv σ m → ∃ σ', rS σ σ' ∧ σ'.1 33 0 = 0 ∧ Rn G 60 268 [.ref 33, .int x] σ = if mSlB m.1 m.2.1 w = 0 then oI 0 (aSI σ' 33 0 2) else oI (pFloor (mSlA m.1 m.2.1 w) (mSlB m.1 m.2.1 w)).toInt32 σ' := by
      intro σ I
      obtain ⟨σ1, r1, f1, g1, v1⟩ := s_gatherI (G := G) (d := 54) I
      have e := s_slopeM (G := G) (d := 58) (I.2.2.1.rs f1) ho (I.2.2.2.1.1.rs f1) v1 g1 hw6
      refine ⟨σ1, f1, g1, ?_⟩
      rw [← e, ← ex, e_Md_slope, s_r1, pCI, if_neg (show ¬ (1 : Int32) = 0 by decide), r1, pCV]
      rcases hw with rfl | rfl
      · rw [if_pos (show x = 0 from ex)]
      · rw [if_neg (by rw [ex]; decide), if_pos (show x = 1 from ex)]
    by_cases h0 : mSlB m.1 m.2.1 w = 0
    · refine Or.inr ⟨(1, 2), by decide, fun σ I => ?_, fun σ I => ?_⟩
      · obtain ⟨σ1, f1, r1⟩ := cls σ I
        rw [if_pos h0] at r1
        exact ⟨σ1, r1, K.ps f1 (by decide)⟩
      · obtain ⟨σ1, f1, g1, r1⟩ := rfr σ I
        rw [if_pos h0] at r1
        exact rExS r1 (f1.s33 (by decide)) pSI_at
    · refine Or.inl ⟨(pFloor (mSlA m.1 m.2.1 w) (mSlB m.1 m.2.1 w)).toInt32, fun σ I => ?_, fun σ I => ?_⟩
      · obtain ⟨σ1, f1, r1⟩ := cls σ I
        rw [if_neg h0] at r1
        exact cOkS r1 f1 (by decide)
      · obtain ⟨σ1, f1, g1, r1⟩ := rfr σ I
        rw [if_neg h0] at r1
        exact rOkS r1 f1 g1
  by_cases h0 : x = 0
  · exact go 0 (Or.inl rfl) h0
  · by_cases h1 : x = 1
    · exact go 1 (Or.inr rfl) h1
    · refine Or.inr ⟨(0, 1), by decide, fun σ I => cExI ?_, fun σ I => rExI (v := 0) ?_⟩
      · rw [e_Rh_slope, if_neg h0, if_neg h1, s_demand0, pXVt]
      · rw [e_Md_slope, if_neg h0, if_neg h1, s_r0 (by decide), pCI, if_pos rfl]
end PSlope
