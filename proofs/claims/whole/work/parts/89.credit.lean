/-! ===== credit ===== -/
theorem lgLt {x y : Int64} : lg_cmp x y < 0 ↔ x < y := by
  constructor
  · intro h
    by_cases h1 : x < y
    · exact h1
    · exact absurd h (pNotLt.mpr (lgGe.mpr h1))
  · intro h
    exact pNotLe.mp fun h2 => absurd h (lgGe.mp h2)
theorem lgLe {x y : Int64} : lg_cmp x y ≤ 0 ↔ ¬ y < x := by
  unfold lg_cmp
  by_cases h2 : y < x
  · rw [if_pos h2]
    exact ⟨fun h => absurd h (by decide), fun h => absurd h2 h⟩
  · rw [if_neg h2]
    refine ⟨fun _ => h2, fun _ => ?_⟩
    split <;> decide
theorem pSL_eq {σ : aH} {a j : Nat} {x : Int64} : (aSL σ a j x).2 a = vp_updL (σ.2 a) j x := by
  show (match Nat.beq a a with
    | true => vp_updL (σ.2 a) j x
    | false => σ.2 a) = _
  rw [show Nat.beq a a = true from Nat.beq_refl a]
theorem pSLx_at {σ : aH} {a j : Nat} {x : Int64} : (aSL σ a j x).2 a j = x := by
  rw [pSL_eq]
  unfold vp_updL
  rw [if_pos rfl]
theorem pSL_of {σ : aH} {a j k : Nat} {x : Int64} (h : k ≠ j) : (aSL σ a j x).2 a k = σ.2 a k := by
  rw [pSL_eq]
  unfold vp_updL
  rw [if_neg h]
def pFac (w : Int32) : Int32 := if 1 ≤ w / 1000 then w / 1000 else 1
def pLaX (x w : Int32) : Int64 := x.toInt64 * (pFac w).toInt64 / 1000
def pLaid (x w : Int32) : Int32 := if 1 ≤ (pLaX x w).toInt32 then (pLaX x w).toInt32 else 1
theorem pFac_bd {w : Int32} (hw : pBd w 0 1000000) : pBd (pFac w) 1 1000 := by
  obtain ⟨w0, w1⟩ := hw
  have e := pI_div (x := w) (y := 1000) w0 (by decide)
  have e1 : (1000 : Int32).toInt = 1000 := rfl
  have e2 : (1 : Int32).toInt = 1 := rfl
  rw [e1] at e
  unfold pFac
  by_cases h : 1 ≤ w / 1000
  · rw [if_pos h]
    rw [pLe, e2] at h
    exact ⟨h, by rw [e]; omega⟩
  · rw [if_neg h]
    exact ⟨by decide, by decide⟩
theorem pL_div {x y : Int64} (hx : 0 ≤ x.toInt) (hy : 0 < y.toInt) : (x / y).toInt = x.toInt / y.toInt := by
  have h1 := Int.ediv_nonneg hx (Int.le_of_lt hy)
  have h2 := Int.ediv_le_self y.toInt hx
  have h3 := Int64.toInt_lt x
  have h4 : (2 : Int) ^ 63 = 9223372036854775808 := by decide
  rw [h4] at h3
  rw [Int64.toInt_div, Int.tdiv_eq_ediv_of_nonneg hx]
  exact Int.bmod_eq_of_le (by simp; omega) (by simp; omega)
theorem p64_32 {x : Int64} (h1 : -2147483648 ≤ x.toInt) (h2 : x.toInt < 2147483648) : x.toInt32.toInt = x.toInt := by
  rw [Int64.toInt_toInt32]
  exact Int.bmod_eq_of_le (by simp; omega) (by simp; omega)
theorem pRound {x : Int64} (h1 : -2147483648 ≤ x.toInt) (h2 : x.toInt < 2147483648) : x.toInt32.toInt64 = x := by
  apply Int64.toInt_inj.mp
  rw [Int32.toInt_toInt64, p64_32 h1 h2]
theorem pLaX_bd {x w : Int32} (hx : pBd x 1 1000000) (hw : pBd w 0 1000000) : 0 ≤ (pLaX x w).toInt ∧ (pLaX x w).toInt ≤ 1000000 := by
  obtain ⟨x0, x1⟩ := hx
  obtain ⟨f0, f1⟩ := pFac_bd hw
  have m := pMulB (x := x.toInt) (y := (pFac w).toInt) (a := 1000000) (b := 1000) (by omega) x1 (by omega) f1
  have e : (x.toInt64 * (pFac w).toInt64).toInt = x.toInt * (pFac w).toInt := by
    rw [pL_mul (by rw [Int32.toInt_toInt64, Int32.toInt_toInt64]; omega) (by rw [Int32.toInt_toInt64, Int32.toInt_toInt64]; omega), Int32.toInt_toInt64, Int32.toInt_toInt64]
  have e1 : (1000 : Int64).toInt = 1000 := rfl
  unfold pLaX
  rw [pL_div (by rw [e]; omega) (by rw [e1]; omega), e, e1]
  omega
theorem pLaid_bd {x w : Int32} (hx : pBd x 1 1000000) (hw : pBd w 0 1000000) : pBd (pLaid x w) 1 1000000 := by
  obtain ⟨a, b⟩ := pLaX_bd hx hw
  have e2 : (1 : Int32).toInt = 1 := rfl
  have e := p64_32 (x := pLaX x w) (by omega) (by omega)
  unfold pLaid
  by_cases h : 1 ≤ (pLaX x w).toInt32
  · rw [if_pos h]
    rw [pLe, e2] at h
    exact ⟨h, by rw [e]; omega⟩
  · rw [if_neg h]
    exact ⟨by decide, by decide⟩
section PCredit
variable {G : Nat × (Nat → Int32)} {d : Nat} {σ : aH} {m : St}
theorem s_fitted {x dd sp : Int32} (hx : pBd x 1 1000000) (hw : pBd (pWgt dd sp) 0 1000000) : Rn G (d + 2) 223 [.int x, .int dd, .int sp] σ = oI (pLaid x (pWgt dd sp)) σ := by
  obtain ⟨a, b⟩ := pLaX_bd hx hw
  have eF : (if (1 : Int32) < pWgt dd sp / 1000 then oI (pWgt dd sp / 1000) σ else oI 1 σ) = oI (pFac (pWgt dd sp)) σ := by
    rw [pOI]
    unfold pFac
    by_cases h : (1 : Int32) < pWgt dd sp / 1000
    · rw [if_pos h, if_pos (by rw [pLt] at h; rw [pLe]; omega)]
    · rw [if_neg h]
      by_cases h2 : 1 ≤ pWgt dd sp / 1000
      · rw [if_pos h2, Int32.le_antisymm h2 (pNotLt.mp h)]
      · rw [if_neg h2]
  rw [e_Rh_fitted, s_wgtC, pCI, e_Math_max_0, eF, pCI, e_Math_max_1]
  have eX : x.toInt64 * (pFac (pWgt dd sp)).toInt64 / 1000 = pLaX x (pWgt dd sp) := rfl
  rw [eX]
  have e := p64_32 (x := pLaX x (pWgt dd sp)) (by omega) (by omega)
  have e1 : (1 : Int64).toInt = 1 := rfl
  have e2 : (1 : Int32).toInt = 1 := rfl
  unfold pLaid
  by_cases h : (1 : Int64) < pLaX x (pWgt dd sp)
  · rw [if_pos (lgLt.mpr h), pCL]
    rw [Int64.lt_iff_toInt_lt, e1] at h
    rw [if_pos (by rw [pLe, e, e2]; omega)]
  · rw [if_neg (fun h2 => h (lgLt.mp h2)), pCL]
    rw [Int64.lt_iff_toInt_lt, e1] at h
    by_cases h2 : 1 ≤ (pLaX x (pWgt dd sp)).toInt32
    · rw [if_pos h2]
      rw [pLe, e, e2] at h2
      have e3 : pLaX x (pWgt dd sp) = 1 := Int64.toInt_inj.mp (by rw [e1]; omega)
      rw [e3]
    · rw [if_neg h2]
      rfl
theorem s_laid {x dd sp : Int32} (hs : sp.toInt64 * sp.toInt64 + dd.toInt64 * dd.toInt64 ≠ 0) : Rn G (d + 2) 229 [.int x, .int dd, .int sp] σ = oI (pLaid x (pWgt dd sp)) σ := by
  rw [e_Md_laid, s_wgtM hs, pCI]
  unfold pLaid pLaX pFac
  by_cases h : 1 ≤ pWgt dd sp / 1000
  · rw [if_pos h, if_pos h, pOI]
  · rw [if_neg h, if_neg h, pOI]
/-- what is foretold of a sheet's column -/
def mTl (h : Ho) (s : Sh) (l k c : Nat) : Int32 := pTell (mHd h s l k) c (decide (c < hn h 3 ∧ hN h c = true))
def mFit0 (h : Ho) (s : Sh) (l k : Nat) : Int32 := pLaid (pLaid 1000000 (pWgt (s.2 k 12 - mTl h s l k 12) (hL h (5 * l + 2)))) (pWgt (s.2 k 13 - mTl h s l k 13) 10)
def mFitF (h : Ho) (s : Sh) (l k i : Nat) (v : Int32) : Int32 := pLaid v (pWgt (s.2 k i - mTl h s l k i) 2)
def mFit (h : Ho) (s : Sh) (l k : Nat) : Int32 := pFo (mFitF h s l k) (hn h 3) 0 (mFit0 h s l k)
theorem difB {a b : Int32} (ha : pBd a (-999) 999) (hb : pBd b (-999) 999) : -9999 ≤ (a - b).toInt ∧ (a - b).toInt ≤ 9999 := by
  obtain ⟨a0, a1⟩ := ha
  obtain ⟨b0, b1⟩ := hb
  rw [pI_sub (by omega) (by omega)]
  omega
theorem mTl_bd {h : Ho} {s : Sh} (hk : Hok h) (hs : Sok h s) {l k : Nat} (hl : l < hn h 2) (h1 : k < s.1) {c : Nat} (hc : c < 14) : pBd (mTl h s l k c) (-999) 999 := by
  have hr := mHd_r hk hs hl h1
  have hh := pHeld_bd hr
  unfold mTl
  by_cases h12 : c < 12
  · exact (pTell_line hr h12).mono (by decide) (by decide)
  · rcases (show c = 12 ∨ c = 13 by omega) with rfl | rfl
    · exact (pDrift_bd hr hh).mono (by decide) (by decide)
    · exact (pStart_bd hh).mono (by decide) (by decide)
theorem sCol_bd {h : Ho} {s : Sh} (hs : Sok h s) {k : Nat} (h1 : k < s.1) {c : Nat} (hc : c < 14) : pBd (s.2 k c) (-999) 999 := by
  obtain ⟨_, _, a, b, e, _⟩ := hs.2 k h1
  by_cases h12 : c < 12
  · exact (a c h12).mono (by decide) (by decide)
  · rcases (show c = 12 ∨ c = 13 by omega) with rfl | rfl
    · exact b
    · exact e.mono (by decide) (by decide)
theorem mDif {h : Ho} {s : Sh} (hk : Hok h) (hs : Sok h s) {l k : Nat} (hl : l < hn h 2) (h1 : k < s.1) {c : Nat} (hc : c < 14) {sp : Int32} (hsp : pBd sp 1 99) : pBd (pWgt (s.2 k c - mTl h s l k c) sp) 0 1000000 ∧ sp.toInt64 * sp.toInt64 + (s.2 k c - mTl h s l k c).toInt64 * (s.2 k c - mTl h s l k c).toInt64 ≠ 0 := by
  obtain ⟨a, b⟩ := difB (sCol_bd hs h1 hc) (mTl_bd hk hs hl h1 hc)
  obtain ⟨s0, s1⟩ := hsp
  exact ⟨pWgt_bd s0 (by omega) a b, pW_ne s0 (by omega) a b⟩
theorem bd_1e6 : pBd 1000000 1 1000000 := ⟨by decide, by decide⟩
theorem bd_10 : pBd 10 1 99 := ⟨by decide, by decide⟩
theorem bd_2 : pBd 2 1 99 := ⟨by decide, by decide⟩
theorem mFit0_bd {h : Ho} {s : Sh} (hk : Hok h) (hs : Sok h s) {l k : Nat} (hl : l < hn h 2) (h1 : k < s.1) : pBd (pLaid 1000000 (pWgt (s.2 k 12 - mTl h s l k 12) (hL h (5 * l + 2)))) 1 1000000 ∧ pBd (mFit0 h s l k) 1 1000000 := by
  have sp := (hk.2.2.2.1 l hl).2.2.1
  have a := pLaid_bd bd_1e6 (mDif hk hs hl h1 (show 12 < 14 by decide) sp).1
  exact ⟨a, pLaid_bd a (mDif hk hs hl h1 (show 13 < 14 by decide) bd_10).1⟩
theorem mFitN_bd {h : Ho} {s : Sh} (hk : Hok h) (hs : Sok h s) {l k : Nat} (hl : l < hn h 2) (h1 : k < s.1) : ∀ n, n ≤ 12 → pBd (pFo (mFitF h s l k) n 0 (mFit0 h s l k)) 1 1000000
  | 0, _ => (mFit0_bd hk hs hl h1).2
  | n + 1, hn => by
    rw [pFo_snoc, Nat.zero_add]
    exact pLaid_bd (mFitN_bd hk hs hl h1 n (by omega)) (mDif hk hs hl h1 (show n < 14 by omega) bd_2).1
theorem s_fitOfC (q : cHo σ m.1) (ho : okAll m) (qs : cSh σ 13 m.2.1) {l k : Nat} (hl : l < hn m.1 2) (h1 : k < m.2.1.1) : ∃ σ', Rn G (d + 6) 222 [.ref 0, .int (Int32.ofNat k), .int (Int32.ofNat l)] σ = oI (mFit m.1 m.2.1 l k) σ' ∧ pSame [24] σ σ' := by
  have hk := ho.1
  have h60 := ho.2.1.1
  obtain ⟨k0, k1, k2, k3, _⟩ := hk.1
  have hr := mHd_r hk ho.2.1 hl h1
  have sp := (hk.2.2.2.1 l hl).2.2.1
  obtain ⟨σ1, r1, f1, g1⟩ := s_takeSh (G := G) (d := d + 1) q ho hl h1
  have g2 := g1.settled (x := pHeld (mHd m.1 m.2.1 l k))
  have f2 : pSame [24] σ (aSI σ1 24 16 (pHeld (mHd m.1 m.2.1 l k))) := f1.si (by decide)
  have hh : (aSI σ1 24 16 (pHeld (mHd m.1 m.2.1 l k))).1 24 16 = pHeld (mHd m.1 m.2.1 l k) := pSI_at
  have rs := s_settle (G := G) (d := d + 1) g1 hr
  generalize aSI σ1 24 16 (pHeld (mHd m.1 m.2.1 l k)) = σ2 at g2 f2 hh rs
  have q2 := q.ps f2 (by decide) (by decide) (by decide)
  have qs2 := qs.ps f2 (by decide) (by decide)
  have rd : Rn G (d + 5) 177 [.ref 24] σ2 = oI (mTl m.1 m.2.1 l k 12) σ2 := by
    rw [s_drift g2 hr, hh]
    rfl
  have rt : Rn G (d + 5) 185 [.ref 24, .int 13, .int 0] σ2 = oI (mTl m.1 m.2.1 l k 13) σ2 := by
    rw [s_foretells g2 hr hh (x := 13) (y := 0) (c := 13) (sd := false) rfl (by decide) rfl]
    rfl
  obtain ⟨b1, b2⟩ := mFit0_bd hk ho.2.1 hl h1
  refine ⟨σ2, ?_, f2⟩
  rw [e_Rh_fitOf, s_getN (x := 16) (c := 16) qs h60 h1 (by decide) rfl, pCI, s_getN (x := 17) (c := 17) qs h60 h1 (by decide) rfl, pCI, r1, pCV, rs, pCV, s_getN (x := 12) (c := 12) qs2 h60 h1 (by decide) rfl, pCI, rd, pCI, s_toldL (i := l) (w := 2) (x3 := 2) rfl rfl (by omega) (by decide), pCI, q2.2.2.2.1 l hl 2 (by decide), s_fitted bd_1e6 (mDif hk ho.2.1 hl h1 (show 12 < 14 by decide) sp).1, pCI, s_getN (x := 13) (c := 13) qs2 h60 h1 (by decide) rfl, pCI, rt, pCI, s_fitted b1 (mDif hk ho.2.1 hl h1 (show 13 < 14 by decide) bd_10).1, pCI, s_howMany (x := 3) (k := 3) rfl (by decide), pCI, q2.1 3 (by decide)]
  obtain ⟨b, ⟨hb1, hb2⟩, e⟩ := pLoopR0 (G := G) (d := d + 5) (M := M_222) (fun i (v : Int32) => (116, [some (.ref 0), some (.int (Int32.ofNat k)), none, some (.int v), some (.int (Int32.ofNat (hn m.1 3))), some (.int (Int32.ofNat i))], [], σ2)) (fun i v => pBd v 1 1000000 ∧ v = pFo (mFitF m.1 m.2.1 l k) i 0 (mFit0 m.1 m.2.1 l k)) (hn m.1 3) (mFit0 m.1 m.2.1 l k) ⟨b2, rfl⟩ (by
    intro i v hi ⟨hv1, hv2⟩
    refine ⟨mFitF m.1 m.2.1 l k i v, ⟨pLaid_bd hv1 (mDif hk ho.2.1 hl h1 (show i < 14 by omega) bd_2).1, by rw [pFo_snoc, Nat.zero_add, ← hv2]⟩, ?_⟩
    have rt : Rn G (d + 5) 185 [.ref 24, .int (Int32.ofNat i), .int (if decide (i < hn m.1 3 ∧ hN m.1 i = true) = true then 1 else 0)] σ2 = oI (mTl m.1 m.2.1 l k i) σ2 := s_foretells g2 hr hh rfl (by omega) rfl
    rw [c_Rh_fitOf_116, if_neg (pGo hi (by omega)), s_getN (x := Int32.ofNat i) (c := i) qs2 h60 h1 (by omega) rfl, pCI, s_lineSaid q2 hk (by omega), pCI, rt, pCI, s_fitted hv1 (mDif hk ho.2.1 hl h1 (show i < 14 by omega) bd_2).1, pCI, pN_s]
    rfl)
  refine Eq.trans e ?_
  show Lq G (d + 5) M_222 (116, [some (.ref 0), some (.int (Int32.ofNat k)), none, some (.int b), some (.int (Int32.ofNat (hn m.1 3))), some (.int (Int32.ofNat (hn m.1 3)))], [], σ2) = _
  rw [c_Rh_fitOf_116, if_pos pEnd, hb2]
  rfl
theorem s_fitOfM (q : rHo σ m.1) (ho : okAll m) (qs : rSh σ 40 53 54 m.2.1) {l k : Nat} (hl : l < hn m.1 2) (h1 : k < m.2.1.1) : ∃ σ', Rn G (d + 7) 226 [.ref 33, .int (Int32.ofNat l), .int (Int32.ofNat k)] σ = oI (mFit m.1 m.2.1 l k) σ' ∧ pSame [50, 51] σ σ' := by
  have hk := ho.1
  have h60 := ho.2.1.1
  obtain ⟨k0, k1, k2, k3, _⟩ := hk.1
  have hr := mHd_r hk ho.2.1 hl h1
  have sp := (hk.2.2.2.1 l hl).2.2.1
  obtain ⟨σ1, r1, f1, g1⟩ := s_asksSheet (G := G) (d := d + 4) q ho qs h1
  have g2 := g1 l hl
  have q1 := q.ps f1 (by decide)
  have qs1 := qs.ps f1 (by decide)
  have e4 : σ1.1 33 4 = Int32.ofNat (hn m.1 3) := q1.1 3 (by decide)
  have t12 : Rn G (d + 6) 189 [.ref 33, .int (Int32.ofNat l), .int 20] σ1 = oI (mTl m.1 m.2.1 l k 12) σ1 := s_tellsBy q1 hk (show l < 6 by omega) g2 hr (x := 20) (c := 12) (Or.inr ⟨0, by decide, rfl, rfl⟩)
  have t13 : Rn G (d + 6) 189 [.ref 33, .int (Int32.ofNat l), .int 21] σ1 = oI (mTl m.1 m.2.1 l k 13) σ1 := s_tellsBy q1 hk (show l < 6 by omega) g2 hr (x := 21) (c := 13) (Or.inr ⟨1, by decide, rfl, rfl⟩)
  refine ⟨σ1, ?_, f1⟩
  rw [e_Md_fitOf, r1, pCV, s_shownOf qs1 h60 h1, pCI, t12, pCI, pM5, pA2, pIx (by omega) (by decide), q1.2.2.2.1 l hl 2 (by decide), s_laid (mDif hk ho.2.1 hl h1 (show 12 < 14 by decide) sp).2, pCI, pM17, pA13, pIx (by omega) (by decide), t13, pCI, (qs1 k h1).1 13 (by decide), s_laid (mDif hk ho.2.1 hl h1 (show 13 < 14 by decide) bd_10).2, pCI]
  have e := pLoop0 (G := G) (d := d + 6) (M := M_226) (fun i (v : Int32) => (65, [some (.ref 33), some (.int (Int32.ofNat l)), some (.int (Int32.ofNat k)), some (.int v), some (.int (Int32.ofNat i))], [], σ1)) (mFitF m.1 m.2.1 l k) (hn m.1 3) (mFit0 m.1 m.2.1 l k) (by
    intro i v hi
    have ti : Rn G (d + 6) 189 [.ref 33, .int (Int32.ofNat l), .int (Int32.ofNat i)] σ1 = oI (mTl m.1 m.2.1 l k i) σ1 := s_tellsBy q1 hk (show l < 6 by omega) g2 hr (x := Int32.ofNat i) (c := i) (Or.inl ⟨hi, rfl⟩)
    rw [c_Md_fitOf_65, e4, if_neg (pGo hi (by omega)), pM17, pA, pIx (by omega) (by decide), ti, pCI, (qs1 k h1).1 i (by omega), s_laid (mDif hk ho.2.1 hl h1 (show i < 14 by omega) bd_2).2, pCI, pN_s]
    rfl)
  refine Eq.trans e ?_
  show Lq G (d + 6) M_226 (65, [some (.ref 33), some (.int (Int32.ofNat l)), some (.int (Int32.ofNat k)), some (.int (mFit m.1 m.2.1 l k)), some (.int (Int32.ofNat (hn m.1 3)))], [], σ1) = _
  rw [c_Md_fitOf_65, e4, if_pos pEnd]
/-! the credits -/
def crG (C f : Nat → Int32) (l : Nat) : Int64 := (C l).toInt64 * (f l).toInt64
def crS (C f : Nat → Int32) (n : Nat) : Int64 := pFo (fun l a => a + crG C f l) n 0 0
def crN (C f : Nat → Int32) (n l : Nat) : Int32 := if crS C f n = 0 then 0 else (crG C f l * 1000000 / crS C f n).toInt32
def crOk (C : Nat → Int32) (n : Nat) : Prop := ∀ l, l < n → pBd (C l) 0 1000000
def fiOk (f : Nat → Int32) (n : Nat) : Prop := ∀ l, l < n → pBd (f l) 1 1000000
theorem crG_bd {C f : Nat → Int32} {n : Nat} (hC : crOk C n) (hf : fiOk f n) {l : Nat} (hl : l < n) : (crG C f l).toInt = (C l).toInt * (f l).toInt ∧ 0 ≤ (crG C f l).toInt ∧ (crG C f l).toInt ≤ 1000000000000 := by
  obtain ⟨c0, c1⟩ := hC l hl
  obtain ⟨f0, f1⟩ := hf l hl
  have m := pMulB (x := (C l).toInt) (y := (f l).toInt) (a := 1000000) (b := 1000000) c0 c1 (by omega) f1
  have e : (crG C f l).toInt = (C l).toInt * (f l).toInt := by
    unfold crG
    rw [pL_mul (by rw [Int32.toInt_toInt64, Int32.toInt_toInt64]; omega) (by rw [Int32.toInt_toInt64, Int32.toInt_toInt64]; omega), Int32.toInt_toInt64, Int32.toInt_toInt64]
  refine ⟨e, ?_, ?_⟩ <;> rw [e] <;> omega
theorem crS_succ (C f : Nat → Int32) (n : Nat) : crS C f (n + 1) = crS C f n + crG C f n := by
  unfold crS
  rw [pFo_snoc, Nat.zero_add]
theorem crS_bd {C f : Nat → Int32} {N : Nat} (hN : N ≤ 6) (hC : crOk C N) (hf : fiOk f N) : ∀ n, n ≤ N → 0 ≤ (crS C f n).toInt ∧ (crS C f n).toInt ≤ 1000000000000 * (n : Int) ∧ ∀ l, l < n → (crG C f l).toInt ≤ (crS C f n).toInt
  | 0, _ => ⟨(by decide : (0 : Int) ≤ (0 : Int64).toInt), (by decide : (0 : Int64).toInt ≤ 1000000000000 * ((0 : Nat) : Int)), fun l hl => absurd hl (Nat.not_lt_zero l)⟩
  | n + 1, h => by
    obtain ⟨a, b, c⟩ := crS_bd hN hC hf n (by omega)
    obtain ⟨_, g0, g1⟩ := crG_bd hC hf (show n < N by omega)
    have e : (crS C f (n + 1)).toInt = (crS C f n).toInt + (crG C f n).toInt := by
      rw [crS_succ, pL_add (by omega) (by omega)]
    refine ⟨by omega, by omega, fun l hl => ?_⟩
    by_cases h2 : l = n
    · subst h2
      omega
    · have := c l (by omega)
      omega
theorem crN_ok {C f : Nat → Int32} {n : Nat} (hn : n ≤ 6) (hC : crOk C n) (hf : fiOk f n) : crOk (crN C f n) n := by
  intro l hl
  obtain ⟨a, b, c⟩ := crS_bd hn hC hf n (Nat.le_refl n)
  obtain ⟨_, g0, g1⟩ := crG_bd hC hf hl
  have c1 := c l hl
  unfold crN
  by_cases h : crS C f n = 0
  · rw [if_pos h]
    exact ⟨by decide, by decide⟩
  · rw [if_neg h]
    have h0 : (crS C f n).toInt ≠ 0 := fun e => h (Int64.toInt_inj.mp (by rw [e]; rfl))
    have e6 : (1000000 : Int64).toInt = 1000000 := rfl
    have e : (crG C f l * 1000000).toInt = (crG C f l).toInt * 1000000 := by
      rw [pL_mul (by rw [e6]; omega) (by rw [e6]; omega), e6]
    exact pDivB (by rw [e]; omega) (by omega) (by rw [e]; omega)
/-- where the sum is none, all credits are -/
theorem crS_0 {C f : Nat → Int32} {n : Nat} (hn : n ≤ 6) (hC : crOk C n) (hf : fiOk f n) (h : crS C f n = 0) {l : Nat} (hl : l < n) : C l = 0 := by
  obtain ⟨a, b, c⟩ := crS_bd hn hC hf n (Nat.le_refl n)
  obtain ⟨e, g0, g1⟩ := crG_bd hC hf hl
  have c1 := c l hl
  rw [h] at c1
  have e0 : (0 : Int64).toInt = 0 := rfl
  rw [e0] at c1
  have e3 : (C l).toInt * (f l).toInt = 0 := by omega
  obtain ⟨f0, f1⟩ := hf l hl
  rcases Int.mul_eq_zero.mp e3 with h1 | h1
  · exact Int32.toInt_inj.mp (by rw [h1]; rfl)
  · omega
/-- the new number, rounded both ways -/
theorem crN_64 {C f : Nat → Int32} {n : Nat} (hn : n ≤ 6) (hC : crOk C n) (hf : fiOk f n) {l : Nat} (hl : l < n) (h : ¬ crS C f n = 0) : crG C f l * 1000000 / crS C f n = (crN C f n l).toInt64 := by
  obtain ⟨a, b, c⟩ := crS_bd hn hC hf n (Nat.le_refl n)
  obtain ⟨_, g0, g1⟩ := crG_bd hC hf hl
  have c1 := c l hl
  have h0 : (crS C f n).toInt ≠ 0 := fun e => h (Int64.toInt_inj.mp (by rw [e]; rfl))
  have e6 : (1000000 : Int64).toInt = 1000000 := rfl
  have e : (crG C f l * 1000000).toInt = (crG C f l).toInt * 1000000 := by
    rw [pL_mul (by rw [e6]; omega) (by rw [e6]; omega), e6]
  have e2 := pL_div (x := crG C f l * 1000000) (y := crS C f n) (by rw [e]; omega) (by omega)
  have hq0 : 0 ≤ (crG C f l * 1000000).toInt / (crS C f n).toInt := Int.ediv_nonneg (by rw [e]; omega) a
  have hq1 : (crG C f l * 1000000).toInt / (crS C f n).toInt ≤ 1000000 := by
    have h1 : (crG C f l * 1000000).toInt / (crS C f n).toInt ≤ (1000000 * (crS C f n).toInt) / (crS C f n).toInt := Int.ediv_le_ediv (by omega) (by rw [e]; omega)
    rw [Int.mul_ediv_cancel _ h0] at h1
    exact h1
  unfold crN
  rw [if_neg h, pRound (by rw [e2]; omega) (by rw [e2]; omega)]
def mFis (h : Ho) (s : Sh) (k l : Nat) : Int32 := mFit h s l k
theorem mFis_ok {h : Ho} {s : Sh} (hk : Hok h) (hs : Sok h s) {k : Nat} (h1 : k < s.1) : fiOk (mFis h s k) (hn h 2) := fun _ hl => mFitN_bd hk hs hl h1 (hn h 3) hk.1.2.2.2.1
theorem s_layByFit (q : cHo σ m.1) (ho : okAll m) (qs : cSh σ 13 m.2.1) {k : Nat} (h1 : k < m.2.1.1) {C : Nat → Int32} (hC : crOk C (hn m.1 2)) (q30 : ∀ l, l < hn m.1 2 → σ.1 30 l = C l) : ∃ σ', Rn G (d + 7) 221 [.ref 0, .int (Int32.ofNat k), .int (Int32.ofNat (hn m.1 2))] σ = oV σ' ∧ pSame [24, 30, 31] σ σ' ∧ ∀ l, l < hn m.1 2 → σ'.1 30 l = crN C (mFis m.1 m.2.1 k) (hn m.1 2) l := by
  have hk := ho.1
  obtain ⟨k0, k1, k2, k3, _⟩ := hk.1
  have hf := mFis_ok hk ho.2.1 h1
  rw [e_Rh_layByFit]
  obtain ⟨b, ⟨hb1, hb2, hb3⟩, e⟩ := pLoopR0 (G := G) (d := d + 6) (M := M_221) (fun i (a : Int64 × aH) => (5, [some (.ref 0), some (.int (Int32.ofNat k)), some (.int (Int32.ofNat (hn m.1 2))), some (.long a.1), none, some (.int (Int32.ofNat i))], [], a.2)) (fun i a => pSame [24, 31] σ a.2 ∧ a.1 = crS C (mFis m.1 m.2.1 k) i ∧ ∀ l, l < i → a.2.1 31 l = mFis m.1 m.2.1 k l) (hn m.1 2) (0, σ) ⟨pSame.rfl', rfl, fun l hl => absurd hl (Nat.not_lt_zero l)⟩ (by
    intro i a hi ⟨ha1, ha2, ha3⟩
    obtain ⟨σ1, r1, f1⟩ := s_fitOfC (G := G) (d := d) (q.ps ha1 (by decide) (by decide) (by decide)) ho (qs.ps ha1 (by decide) (by decide)) hi h1
    have e30 : (aSI σ1 31 i (mFit m.1 m.2.1 i k)).1 30 i = C i := by
      rw [pSI_ne (by decide), f1.at (by decide), ha1.at (by decide)]
      exact q30 i hi
    refine ⟨(a.1 + crG C (mFis m.1 m.2.1 k) i, aSI σ1 31 i (mFit m.1 m.2.1 i k)), ⟨(ha1.trans (f1.mono (by decide))).si (by decide), by rw [crS_succ, ha2], ?_⟩, ?_⟩
    · intro l hl
      by_cases h : l = i
      · subst h
        exact pSI_at
      · show (aSI σ1 31 i (mFit m.1 m.2.1 i k)).1 31 l = _
        rw [pSI_of h, f1.at (by decide)]
        exact ha3 l (by omega)
    · show Lq G (d + 6) M_221 (5, [some (.ref 0), some (.int (Int32.ofNat k)), some (.int (Int32.ofNat (hn m.1 2))), some (.long a.1), none, some (.int (Int32.ofNat i))], [], a.2) = _
      rw [c_Rh_layByFit_5, if_neg (pGo hi (by omega)), r1, pCI, s_put (r := 31) (n := 6) (i := i) rfl rfl (by omega) (by decide), pCV, s_cell (r := 30) (n := 6) (i := i) rfl rfl (by omega) (by decide), pCI, s_cell (r := 31) (n := 6) (i := i) rfl rfl (by omega) (by decide), pCI, e30, pSI_at, pN_s]
      rfl)
  have e' : Lq G (d + 6) M_221 (5, [some (.ref 0), some (.int (Int32.ofNat k)), some (.int (Int32.ofNat (hn m.1 2))), some (.long 0), none, some (.int 0)], [], σ) = Lq G (d + 6) M_221 (5, [some (.ref 0), some (.int (Int32.ofNat k)), some (.int (Int32.ofNat (hn m.1 2))), some (.long b.1), none, some (.int (Int32.ofNat (hn m.1 2)))], [], b.2) := e
  rw [e', c_Rh_layByFit_5, if_pos pEnd, hb2]
  obtain ⟨s0, s1, _⟩ := crS_bd k2 hC hf (hn m.1 2) (Nat.le_refl _)
  by_cases h0 : crS C (mFis m.1 m.2.1 k) (hn m.1 2) = 0
  · refine ⟨b.2, ?_, hb1.mono (by decide), fun l hl => ?_⟩
    · rw [c_Rh_layByFit_60, if_pos (lgLe.mpr (by rw [h0]; decide)), ite_self]
    · unfold crN
      rw [if_pos h0, hb1.at (by decide), q30 l hl, crS_0 k2 hC hf h0 hl]
  · have hp : (0 : Int64) < crS C (mFis m.1 m.2.1 k) (hn m.1 2) := by
      rw [Int64.lt_iff_toInt_lt]
      have h2 : (crS C (mFis m.1 m.2.1 k) (hn m.1 2)).toInt ≠ 0 := fun e => h0 (Int64.toInt_inj.mp (by rw [e]; rfl))
      have e0 : (0 : Int64).toInt = 0 := rfl
      omega
    obtain ⟨c, ⟨hc1, hc2, hc3⟩, f⟩ := pLoopR0 (G := G) (d := d + 6) (M := M_221) (fun i (a : aH) => (60, [some (.ref 0), none, some (.int (Int32.ofNat (hn m.1 2))), some (.long (crS C (mFis m.1 m.2.1 k) (hn m.1 2))), none, some (.int (Int32.ofNat i))], [], a)) (fun i a => pSame [30] b.2 a ∧ (∀ l, l < i → a.1 30 l = crN C (mFis m.1 m.2.1 k) (hn m.1 2) l) ∧ ∀ l, i ≤ l → l < hn m.1 2 → a.1 30 l = C l) (hn m.1 2) b.2 ⟨pSame.rfl', fun l hl => absurd hl (Nat.not_lt_zero l), fun l _ hl => by rw [hb1.at (by decide)]; exact q30 l hl⟩ (by
      intro i a hi ⟨ha1, ha2, ha3⟩
      refine ⟨aSI a 30 i (crN C (mFis m.1 m.2.1 k) (hn m.1 2) i), ⟨ha1.si (by decide), ?_, ?_⟩, ?_⟩
      · intro l hl
        by_cases h : l = i
        · subst h
          exact pSI_at
        · rw [pSI_of h]
          exact ha2 l (by omega)
      · intro l hl hl2
        rw [pSI_of (by omega)]
        exact ha3 l (by omega) hl2
      · have e31 : a.1 31 i = mFis m.1 m.2.1 k i := by
          rw [ha1.at (by decide)]
          exact hb3 i hi
        rw [c_Rh_layByFit_60, if_neg (pGo hi (by omega)), if_neg (fun h => (lgLe.mp h) hp), s_cell (r := 30) (n := 6) (i := i) rfl rfl (by omega) (by decide), pCI, s_cell (r := 31) (n := 6) (i := i) rfl rfl (by omega) (by decide), pCI, ha3 i (Nat.le_refl i) hi, e31]
        unfold aNzL
        rw [if_neg h0, s_put (r := 30) (n := 6) (i := i) rfl rfl (by omega) (by decide), pCV, pN_s]
        have ec : crN C (mFis m.1 m.2.1 k) (hn m.1 2) i = (crG C (mFis m.1 m.2.1 k) i * 1000000 / crS C (mFis m.1 m.2.1 k) (hn m.1 2)).toInt32 := if_neg h0
        rw [ec]
        rfl)
    have f' : Lq G (d + 6) M_221 (60, [some (.ref 0), none, some (.int (Int32.ofNat (hn m.1 2))), some (.long (crS C (mFis m.1 m.2.1 k) (hn m.1 2))), none, some (.int 0)], [], b.2) = Lq G (d + 6) M_221 (60, [some (.ref 0), none, some (.int (Int32.ofNat (hn m.1 2))), some (.long (crS C (mFis m.1 m.2.1 k) (hn m.1 2))), none, some (.int (Int32.ofNat (hn m.1 2)))], [], c) := f
    refine ⟨c, ?_, (hb1.mono (by decide)).trans (hc1.mono (by decide)), hc2⟩
    rw [f', c_Rh_layByFit_60, if_pos pEnd]
def crK (h : Ho) (s : Sh) (k : Nat) (C : Nat → Int32) : Nat → Int32 := crN C (mFis h s k) (hn h 2)
def crC0 (n : Nat) : Nat → Int32 := fun _ => 1000000 / Int32.ofNat n
def crAll (h : Ho) (s : Sh) : Nat → Int32 := (mCl h s).foldl (fun C k => crK h s k C) (crC0 (hn h 2))
theorem crC0_ok {n : Nat} (h1 : 1 ≤ n) (h6 : n ≤ 6) : crOk (crC0 n) n := by
  intro l _
  have e6 : (1000000 : Int32).toInt = 1000000 := rfl
  have e := pI_div (x := 1000000) (y := Int32.ofNat n) (by rw [e6]; omega) (by rw [pN_int (by omega)]; omega)
  have q0 := Int.ediv_nonneg (a := (1000000 : Int32).toInt) (b := (Int32.ofNat n).toInt) (by rw [e6]; omega) (by rw [pN_int (by omega)]; omega)
  have q1 := Int.ediv_le_self (a := (1000000 : Int32).toInt) (Int32.ofNat n).toInt (by rw [e6]; omega)
  unfold crC0 pBd
  rw [e]
  omega
theorem s_creditC (q : cHo σ m.1) (ho : okAll m) (qs : cSh σ 13 m.2.1) (v : cSv σ m.1 m.2.1) {l : Nat} (hl : l < hn m.1 2) : ∃ σ', Lq G (d + 8) M_219 (38, [some (.ref 0), some (.int (Int32.ofNat l)), some (.int (Int32.ofNat (hn m.1 2))), some (.int 0)], [], σ) = oI (crAll m.1 m.2.1 l) σ' ∧ pSame [24, 30, 31] σ σ' := by
  have hk := ho.1
  have h60 := ho.2.1.1
  obtain ⟨k0, k1, k2, k3, _⟩ := hk.1
  obtain ⟨b, ⟨hb1, hb2⟩, e⟩ := pLoopR0 (G := G) (d := d + 8) (M := M_219) (fun i (a : aH) => (38, [some (.ref 0), some (.int (Int32.ofNat l)), some (.int (Int32.ofNat (hn m.1 2))), some (.int (Int32.ofNat i))], [], a)) (fun i a => pSame [30] σ a ∧ ∀ l, l < i → a.1 30 l = crC0 (hn m.1 2) l) (hn m.1 2) σ ⟨pSame.rfl', fun l hl => absurd hl (Nat.not_lt_zero l)⟩ (by
    intro i a hi ⟨ha1, ha2⟩
    have n0 : ¬ Int32.ofNat (hn m.1 2) = 0 := fun e => absurd ((pEqL (c := 0) (n := 0) rfl (by decide) (by omega)).mp e) (by omega)
    refine ⟨aSI a 30 i (crC0 (hn m.1 2) i), ⟨ha1.si (by decide), ?_⟩, ?_⟩
    · intro l hl
      by_cases h : l = i
      · subst h
        exact pSI_at
      · rw [pSI_of h]
        exact ha2 l (by omega)
    · rw [c_Rh_credit_38, if_neg (pGo hi (by omega)), if_neg n0]
      unfold aNz
      rw [if_neg n0, s_put (r := 30) (n := 6) (i := i) rfl rfl (by omega) (by decide), pCV, pN_s]
      rfl)
  have e' : Lq G (d + 8) M_219 (38, [some (.ref 0), some (.int (Int32.ofNat l)), some (.int (Int32.ofNat (hn m.1 2))), some (.int 0)], [], σ) = Lq G (d + 8) M_219 (38, [some (.ref 0), some (.int (Int32.ofNat l)), some (.int (Int32.ofNat (hn m.1 2))), some (.int (Int32.ofNat (hn m.1 2)))], [], b) := e
  rw [e', c_Rh_credit_38, if_pos pEnd]
  obtain ⟨c, ⟨hc1, hc2, hc3, hc4⟩, f⟩ := pLoopR0 (G := G) (d := d + 8) (M := M_219) (fun i (a : (Nat → Int32) × aH) => (71, [some (.ref 0), some (.int (Int32.ofNat l)), some (.int (Int32.ofNat (hn m.1 2))), some (.int (Int32.ofNat i))], [], a.2)) (fun i a => pSame [24, 30, 31] σ a.2 ∧ crOk a.1 (hn m.1 2) ∧ (∀ l, l < hn m.1 2 → a.2.1 30 l = a.1 l) ∧ a.1 = pFo (fun k C => if mOff m.1 m.2.1 k = -1 then crK m.1 m.2.1 k C else C) i 0 (crC0 (hn m.1 2))) m.2.1.1 (crC0 (hn m.1 2), b) ⟨hb1.mono (by decide), crC0_ok (by omega) k2, hb2, rfl⟩ (by
    intro i a hi ⟨ha1, ha2, ha3, ha4⟩
    have qa := q.ps ha1 (by decide) (by decide) (by decide)
    have qsa := qs.ps ha1 (by decide) (by decide)
    have va := v.ps ha1 (by decide)
    by_cases h1 : mOff m.1 m.2.1 i = -1
    · obtain ⟨σ1, r1, f1, g1⟩ := s_layByFit (G := G) (d := d + 1) qa ho qsa hi ha2 ha3
      refine ⟨(crK m.1 m.2.1 i a.1, σ1), ⟨ha1.trans f1, crN_ok k2 ha2 (mFis_ok hk ho.2.1 hi), g1, by rw [pFo_snoc, Nat.zero_add, if_pos h1, ← ha4]⟩, ?_⟩
      show Lq G (d + 8) M_219 (71, [some (.ref 0), some (.int (Int32.ofNat l)), some (.int (Int32.ofNat (hn m.1 2))), some (.int (Int32.ofNat i))], [], a.2) = _
      rw [c_Rh_credit_71, qsa.1, if_neg (pGo hi (by omega)), s_counts va h60 hi, pCI, pB0, if_pos h1, r1, pCV, pN_s]
    · refine ⟨a, ⟨ha1, ha2, ha3, by rw [pFo_snoc, Nat.zero_add, if_neg h1, ← ha4]⟩, ?_⟩
      show Lq G (d + 8) M_219 (71, [some (.ref 0), some (.int (Int32.ofNat l)), some (.int (Int32.ofNat (hn m.1 2))), some (.int (Int32.ofNat i))], [], a.2) = _
      rw [c_Rh_credit_71, qsa.1, if_neg (pGo hi (by omega)), s_counts va h60 hi, pCI, pB0, if_neg h1, pN_s])
  have ec : c.1 = crAll m.1 m.2.1 := hc4.trans (pFo_filter (fun k => mOff m.1 m.2.1 k = -1) (crK m.1 m.2.1) (crC0 (hn m.1 2)) m.2.1.1)
  have f' : Lq G (d + 8) M_219 (71, [some (.ref 0), some (.int (Int32.ofNat l)), some (.int (Int32.ofNat (hn m.1 2))), some (.int 0)], [], b) = Lq G (d + 8) M_219 (71, [some (.ref 0), some (.int (Int32.ofNat l)), some (.int (Int32.ofNat (hn m.1 2))), some (.int (Int32.ofNat m.2.1.1))], [], c.2) := f
  refine ⟨c.2, ?_, hc1⟩
  rw [f', c_Rh_credit_71, (qs.ps hc1 (by decide) (by decide)).1, if_pos pEnd, s_cell (r := 30) (n := 6) (i := l) rfl rfl (by omega) (by decide), pCI, hc3 l hl, ec]
/-! the reference's -/
theorem s_creditM_in (q : rHo σ m.1) (ho : okAll m) (qs : rSh σ 40 53 54 m.2.1) (g : rG σ (mCl m.1 m.2.1)) {l i : Nat} (hi : i < (mCl m.1 m.2.1).length) {C : Nat → Int32} (hC : crOk C (hn m.1 2)) (q57 : ∀ l, l < hn m.1 2 → σ.2 57 l = (C l).toInt64) : ∃ σ', Lq G (d + 7) M_225 (82, [some (.ref 33), some (.int (Int32.ofNat l)), some (.int (Int32.ofNat i)), some (.long 0), none, some (.int 0)], [], σ) = Lq G (d + 7) M_225 (69, [some (.ref 33), some (.int (Int32.ofNat l)), some (.int (Int32.ofNat (i + 1))), none, none, none], [], σ') ∧ pSame [50, 51, 57] σ σ' ∧ ∀ l, l < hn m.1 2 → σ'.2 57 l = (crK m.1 m.2.1 ((mCl m.1 m.2.1).getD i 0) C l).toInt64 := by
  have hk := ho.1
  have h60 := ho.2.1.1
  have hlen := mCl_len (h := m.1) (s := m.2.1)
  obtain ⟨k0, k1, k2, k3, _⟩ := hk.1
  have e3 : ∀ a, pSame [50, 51, 57] σ a → a.1 33 3 = Int32.ofNat (hn m.1 2) := fun a f => (congrFun (f.at (by decide)) 3).trans (q.1 2 (by decide))
  obtain ⟨g1, g2⟩ := g.elem hi
  have hf := mFis_ok hk ho.2.1 g1
  obtain ⟨b, ⟨hb1, hb2, hb3, hb4⟩, e⟩ := pLoopR0 (G := G) (d := d + 7) (M := M_225) (fun j (a : Int64 × aH) => (82, [some (.ref 33), some (.int (Int32.ofNat l)), some (.int (Int32.ofNat i)), some (.long a.1), none, some (.int (Int32.ofNat j))], [], a.2)) (fun j a => pSame [50, 51, 57] σ a.2 ∧ a.1 = crS C (mFis m.1 m.2.1 ((mCl m.1 m.2.1).getD i 0)) j ∧ (∀ l, l < j → a.2.2 57 l = crG C (mFis m.1 m.2.1 ((mCl m.1 m.2.1).getD i 0)) l) ∧ ∀ l, j ≤ l → l < hn m.1 2 → a.2.2 57 l = (C l).toInt64) (hn m.1 2) (0, σ) ⟨pSame.rfl', rfl, fun l hl => absurd hl (Nat.not_lt_zero l), fun l _ hl => q57 l hl⟩ (by
    intro j a hj ⟨ha1, ha2, ha3, ha4⟩
    obtain ⟨σ1, r1, f1⟩ := s_fitOfM (G := G) (d := d) (q.ps ha1 (by decide)) ho (qs.ps ha1 (by decide)) hj g1
    have i2 : a.2.1 56 i = Int32.ofNat ((mCl m.1 m.2.1).getD i 0) := by
      rw [ha1.at (by decide)]
      exact g2
    have eg : crG C (mFis m.1 m.2.1 ((mCl m.1 m.2.1).getD i 0)) j = (C j).toInt64 * (mFit m.1 m.2.1 j ((mCl m.1 m.2.1).getD i 0)).toInt64 := rfl
    have e57 : σ1.2 57 = a.2.2 57 := (f1 57 (by decide)).2
    refine ⟨(a.1 + crG C (mFis m.1 m.2.1 ((mCl m.1 m.2.1).getD i 0)) j, aSL σ1 57 j (crG C (mFis m.1 m.2.1 ((mCl m.1 m.2.1).getD i 0)) j)), ⟨(ha1.trans (f1.mono (by decide))).sl (by decide), by rw [crS_succ, ha2], ?_, ?_⟩, ?_⟩
    · intro l hl
      by_cases h : l = j
      · subst h
        exact pSLx_at
      · show (aSL σ1 57 j (crG C (mFis m.1 m.2.1 ((mCl m.1 m.2.1).getD i 0)) j)).2 57 l = _
        rw [pSL_of h, e57]
        exact ha3 l (by omega)
    · intro l hl hl2
      show (aSL σ1 57 j (crG C (mFis m.1 m.2.1 ((mCl m.1 m.2.1).getD i 0)) j)).2 57 l = _
      rw [pSL_of (by omega), e57]
      exact ha4 l (by omega) hl2
    · show Lq G (d + 7) M_225 (82, [some (.ref 33), some (.int (Int32.ofNat l)), some (.int (Int32.ofNat i)), some (.long a.1), none, some (.int (Int32.ofNat j))], [], a.2) = _
      rw [c_Md_credit_82, e3 a.2 ha1, if_neg (pGo hj (by omega)), pIx (by omega) (by decide), pIx (by omega) (by decide), i2, r1, pCI, pIx (by omega) (by decide), pIx (by omega) (by decide), ha4 j (Nat.le_refl j) hj, ← eg, pSLx_at, pN_s])
  have e' : Lq G (d + 7) M_225 (82, [some (.ref 33), some (.int (Int32.ofNat l)), some (.int (Int32.ofNat i)), some (.long 0), none, some (.int 0)], [], σ) = Lq G (d + 7) M_225 (82, [some (.ref 33), some (.int (Int32.ofNat l)), some (.int (Int32.ofNat i)), some (.long b.1), none, some (.int (Int32.ofNat (hn m.1 2)))], [], b.2) := e
  obtain ⟨c, ⟨hc1, hc2, hc3⟩, f⟩ := pLoopR0 (G := G) (d := d + 7) (M := M_225) (fun j (a : aH) => (133, [some (.ref 33), some (.int (Int32.ofNat l)), some (.int (Int32.ofNat i)), some (.long b.1), none, some (.int (Int32.ofNat j))], [], a)) (fun j a => pSame [50, 51, 57] σ a ∧ (∀ l, l < j → a.2 57 l = (crK m.1 m.2.1 ((mCl m.1 m.2.1).getD i 0) C l).toInt64) ∧ ∀ l, j ≤ l → l < hn m.1 2 → a.2 57 l = crG C (mFis m.1 m.2.1 ((mCl m.1 m.2.1).getD i 0)) l) (hn m.1 2) b.2 ⟨hb1, fun l hl => absurd hl (Nat.not_lt_zero l), fun l _ hl => hb3 l hl⟩ (by
    intro j a hj ⟨ha1, ha2, ha3⟩
    refine ⟨aSL a 57 j (crK m.1 m.2.1 ((mCl m.1 m.2.1).getD i 0) C j).toInt64, ⟨ha1.sl (by decide), ?_, ?_⟩, ?_⟩
    · intro l hl
      by_cases h : l = j
      · subst h
        exact pSLx_at
      · rw [pSL_of h]
        exact ha2 l (by omega)
    · intro l hl hl2
      rw [pSL_of (by omega)]
      exact ha3 l (by omega) hl2
    · rw [c_Md_credit_133, e3 a ha1, if_neg (pGo hj (by omega)), hb2]
      by_cases h0 : crS C (mFis m.1 m.2.1 ((mCl m.1 m.2.1).getD i 0)) (hn m.1 2) = 0
      · have ez : crK m.1 m.2.1 ((mCl m.1 m.2.1).getD i 0) C j = 0 := if_pos h0
        rw [if_pos ((lg_cmp_eq _ _).mpr h0), pIx (by omega) (by decide), pN_s, ez]
        rfl
      · rw [if_neg (fun h => h0 ((lg_cmp_eq _ _).mp h)), pIx (by omega) (by decide)]
        unfold aNzL
        rw [if_neg h0, pIx (by omega) (by decide), ha3 j (Nat.le_refl j) hj, crN_64 k2 hC hf hj h0, pN_s]
        rfl)
  refine ⟨c, ?_, hc1, hc2⟩
  have f' : Lq G (d + 7) M_225 (133, [some (.ref 33), some (.int (Int32.ofNat l)), some (.int (Int32.ofNat i)), some (.long b.1), none, some (.int 0)], [], b.2) = Lq G (d + 7) M_225 (133, [some (.ref 33), some (.int (Int32.ofNat l)), some (.int (Int32.ofNat i)), some (.long b.1), none, some (.int (Int32.ofNat (hn m.1 2)))], [], c) := f
  rw [e', c_Md_credit_82, e3 b.2 hb1, if_pos pEnd, f', c_Md_credit_133, e3 c hc1, if_pos pEnd, pN_s]
theorem s_creditM (q : rHo σ m.1) (ho : okAll m) (qs : rSh σ 40 53 54 m.2.1) (g : rG σ (mCl m.1 m.2.1)) {l : Nat} (hl : l < hn m.1 2) : ∃ σ', Lq G (d + 7) M_225 (38, [some (.ref 33), some (.int (Int32.ofNat l)), some (.int 0), none, none, none], [], σ) = oI (crAll m.1 m.2.1 l) σ' ∧ pSame [50, 51, 57] σ σ' := by
  have hk := ho.1
  have h60 := ho.2.1.1
  have hlen := mCl_len (h := m.1) (s := m.2.1)
  obtain ⟨k0, k1, k2, k3, _⟩ := hk.1
  have e3 : ∀ a, pSame [50, 51, 57] σ a → a.1 33 3 = Int32.ofNat (hn m.1 2) := fun a f => (congrFun (f.at (by decide)) 3).trans (q.1 2 (by decide))
  obtain ⟨b, ⟨hb1, hb2⟩, e⟩ := pLoopR0 (G := G) (d := d + 7) (M := M_225) (fun i (a : aH) => (38, [some (.ref 33), some (.int (Int32.ofNat l)), some (.int (Int32.ofNat i)), none, none, none], [], a)) (fun i a => pSame [50, 51, 57] σ a ∧ ∀ l, l < i → a.2 57 l = (crC0 (hn m.1 2) l).toInt64) (hn m.1 2) σ ⟨pSame.rfl', fun l hl => absurd hl (Nat.not_lt_zero l)⟩ (by
    intro i a hi ⟨ha1, ha2⟩
    have n0 : ¬ Int32.ofNat (hn m.1 2) = 0 := fun e => absurd ((pEqL (c := 0) (n := 0) rfl (by decide) (by omega)).mp e) (by omega)
    refine ⟨aSL a 57 i (crC0 (hn m.1 2) i).toInt64, ⟨ha1.sl (by decide), ?_⟩, ?_⟩
    · intro l hl
      by_cases h : l = i
      · subst h
        exact pSLx_at
      · rw [pSL_of h]
        exact ha2 l (by omega)
    · rw [c_Md_credit_38, e3 a ha1, if_neg (pGo hi (by omega))]
      unfold aNz
      rw [if_neg n0, pIx (by omega) (by decide), pN_s]
      rfl)
  have e' : Lq G (d + 7) M_225 (38, [some (.ref 33), some (.int (Int32.ofNat l)), some (.int 0), none, none, none], [], σ) = Lq G (d + 7) M_225 (38, [some (.ref 33), some (.int (Int32.ofNat l)), some (.int (Int32.ofNat (hn m.1 2))), none, none, none], [], b) := e
  rw [e', c_Md_credit_38, e3 b hb1, if_pos pEnd]
  obtain ⟨c, ⟨hc1, hc2, hc3, hc4⟩, f⟩ := pLoopR0 (G := G) (d := d + 7) (M := M_225) (fun i (a : (Nat → Int32) × aH) => (69, [some (.ref 33), some (.int (Int32.ofNat l)), some (.int (Int32.ofNat i)), none, none, none], [], a.2)) (fun i a => pSame [50, 51, 57] σ a.2 ∧ crOk a.1 (hn m.1 2) ∧ (∀ l, l < hn m.1 2 → a.2.2 57 l = (a.1 l).toInt64) ∧ a.1 = pFo (fun i C => crK m.1 m.2.1 ((mCl m.1 m.2.1).getD i 0) C) i 0 (crC0 (hn m.1 2))) (mCl m.1 m.2.1).length (crC0 (hn m.1 2), b) ⟨hb1, crC0_ok (by omega) k2, hb2, rfl⟩ (by
    intro i a hi ⟨ha1, ha2, ha3, ha4⟩
    have ga := g.ps ha1 (by decide) (by decide)
    obtain ⟨σ1, r1, f1, g1⟩ := s_creditM_in (G := G) (d := d) (q.ps ha1 (by decide)) ho (qs.ps ha1 (by decide)) ga (l := l) hi ha2 ha3
    refine ⟨(crK m.1 m.2.1 ((mCl m.1 m.2.1).getD i 0) a.1, σ1), ⟨ha1.trans f1, crN_ok k2 ha2 (mFis_ok hk ho.2.1 (ga.elem hi).1), g1, by rw [pFo_snoc, Nat.zero_add, ← ha4]⟩, ?_⟩
    show Lq G (d + 7) M_225 (69, [some (.ref 33), some (.int (Int32.ofNat l)), some (.int (Int32.ofNat i)), none, none, none], [], a.2) = _
    rw [c_Md_credit_69, ga.1, if_neg (pGo hi (by omega)), r1])
  have ec : c.1 = crAll m.1 m.2.1 := hc4.trans (pFo_list0 (crK m.1 m.2.1) (mCl m.1 m.2.1) (crC0 (hn m.1 2)))
  have f' : Lq G (d + 7) M_225 (69, [some (.ref 33), some (.int (Int32.ofNat l)), some (.int 0), none, none, none], [], b) = Lq G (d + 7) M_225 (69, [some (.ref 33), some (.int (Int32.ofNat l)), some (.int (Int32.ofNat (mCl m.1 m.2.1).length)), none, none, none], [], c.2) := f
  refine ⟨c.2, ?_, hc1⟩
  rw [f', c_Md_credit_69, (g.ps hc1 (by decide) (by decide)).1, if_pos pEnd, pIx (by omega) (by decide), hc3 l hl, Int32.toInt32_toInt64, ec]
theorem a_credit (ho : okAll m) (x : Int32) : Ask G 219 225 [.int x] [(0, 1)] m := by
  have hk := ho.1
  have h6 := hk.1.2.2.1
  rcases rngI (x := x) (n := hn m.1 2) (by omega) with ⟨l, hl, rfl⟩ | hx
  · refine Or.inl ⟨crAll m.1 m.2.1 l, fun σ I => ?_, fun σ I => ?_⟩
    · obtain ⟨σ1, r1, f1, v1⟩ := s_siftI (G := G) (d := 52) I
      obtain ⟨_, ⟨q, qs, _⟩, _⟩ := I
      have q1 := q.ps f1 (by decide) (by decide) (by decide)
      obtain ⟨σ2, r2, f2⟩ := s_creditC (G := G) (d := 51) q1 ho (qs.ps f1 (by decide) (by decide)) v1 hl
      refine cOkS (os := [17, 18, 19, 20, 21, 22, 23, 24, 30, 31]) (σ' := σ2) ?_ ((f1.mono (by decide)).trans (f2.mono (by decide))) (by decide)
      rw [e_Rh_credit, s_hasN (x1 := 2) (k := 2) rfl (by decide) (q.1 2 (by decide)) (by omega) (by omega), pCI, if_pos hl, s_demand1, pXV, r1, pCV, s_howMany (x := 2) (k := 2) rfl (by decide), pCI, q1.1 2 (by decide)]
      exact r2
    · obtain ⟨σ1, r1, f1, g1, v1⟩ := s_gatherI (G := G) (d := 54) I
      obtain ⟨σ2, r2, f2⟩ := s_creditM (G := G) (d := 52) (I.2.2.1.rs f1) ho (I.2.2.2.1.1.rs f1) v1 hl
      obtain ⟨_, _, ⟨q, _⟩⟩ := I
      have e3 : σ.1 33 3 = Int32.ofNat (hn m.1 2) := q.1 2 (by decide)
      refine rOkS (σ' := σ2) ?_ (f1.trans (rS.of f2 (by decide))) ((congrFun (f2.at (by decide)) 0).trans g1)
      rw [e_Md_credit, if_neg (pN_n0 (by omega)), e3, if_neg (pGo hl (by omega)), s_r1, pCI, if_neg (by decide), r1, pCV]
      exact r2
  · refine Or.inr ⟨(0, 1), by decide, fun σ I => cExI ?_, fun σ I => rExI (v := 0) ?_⟩
    · obtain ⟨_, ⟨q, _⟩, _⟩ := I
      rw [e_Rh_credit, s_hasO (x1 := 2) (k := 2) rfl (by decide) (q.1 2 (by decide)) hx, pCI, s_demand0, pXVt]
    · obtain ⟨_, _, ⟨q, _⟩⟩ := I
      have e3 : σ.1 33 3 = Int32.ofNat (hn m.1 2) := q.1 2 (by decide)
      rw [e_Md_credit, e3, s_r0 (by decide), pCI, if_pos rfl]
      by_cases h0 : x < 0
      · rw [if_pos h0]
      · rw [if_neg h0, if_pos (hx.resolve_left h0)]
end PCredit
