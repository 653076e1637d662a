/-! ===== things found once, by how often they were looked for ===== -/
section PLook
variable {G : Nat × (Nat → Int32)} {d : Nat} {σ : aH} {m : St}
def mLk (c : Int32) (f : Nat → Int32) (i : Nat) : Int32 := (f i * (100 - c) + (if i = 0 then 0 else f (i - 1) * c)) / 100
def mLkN (c : Int32) : Nat → Nat → Int32
  | 0, i => if i = 0 then 1000000 else 0
  | z + 1, i => mLk c (mLkN c z) i
theorem mLkN_succ (c : Int32) (z i : Nat) : mLkN c (z + 1) i = mLk c (mLkN c z) i := rfl
def mLooked (n k : Nat) (c : Int32) : Int32 := pFo (fun i a => a + mLkN c n i) (n + 1 - k) k 0
theorem s_lkC_in {x1 x2 x3 x4 : Int32} {n : Nat} (hn : n < 41) {f : Nat → Int32} : ∀ (i : Nat) (a : aH), i ≤ n → (∀ j, j ≤ i → a.1 32 j = f j) → (∀ j, i < j → j ≤ n → a.1 32 j = mLk x3 f j) → ∃ b, pSame [32] a b ∧ (∀ j, j ≤ n → b.1 32 j = mLk x3 f j) ∧ Lq G (d + 1) M_282 (85, [some (.ref 0), some (.int x1), some (.int x2), some (.int x3), some (.int x4), some (.int (Int32.ofNat i))], [], a) = Lq G (d + 1) M_282 (76, [some (.ref 0), some (.int x1), some (.int x2), some (.int x3), some (.int (x4 + 1)), none], [], b)
  | 0, a, hi, h1, h2 => by
    refine ⟨aSI a 32 0 (mLk x3 f 0), pSame.rfl'.si (by decide), ?_, ?_⟩
    · intro j hj
      by_cases h : j = 0
      · rw [h, pSI_at]
      · rw [pSI_of h]
        exact h2 j (by omega) hj
    · rw [c_Rh_looked_85, if_neg (show ¬ Int32.ofNat 0 < 0 by decide), s_cell (r := 32) (n := 41) (i := 0) rfl rfl (by decide) (by decide), pCI, s_cellO (r := 32) (n := 41) (x := Int32.ofNat 0 - 1) rfl (Or.inl (by decide)), pCI, s_put (r := 32) (n := 41) (i := 0) rfl rfl (by decide) (by decide), pCV, c_Rh_looked_85, if_pos (show Int32.ofNat 0 + (-1) < 0 by decide), h1 0 (Nat.le_refl _), Int32.zero_mul]
      rfl
  | i + 1, a, hi, h1, h2 => by
    have e1 : a.1 32 (i + 1) = f (i + 1) := h1 (i + 1) (Nat.le_refl _)
    have e2 : a.1 32 i = f i := h1 i (by omega)
    have ev : (f (i + 1) * (100 - x3) + f i * x3) / 100 = mLk x3 f (i + 1) := by
      unfold mLk
      rw [if_neg (by omega), show i + 1 - 1 = i by omega]
    obtain ⟨b, hb1, hb2, hb3⟩ := s_lkC_in (x1 := x1) (x2 := x2) (x3 := x3) (x4 := x4) hn (f := f) i (aSI a 32 (i + 1) (mLk x3 f (i + 1))) (by omega) (fun j hj => by rw [pSI_of (by omega)]; exact h1 j (by omega)) (fun j hj hj2 => by
      by_cases h : j = i + 1
      · rw [h, pSI_at]
      · rw [pSI_of h]
        exact h2 j (by omega) hj2)
    refine ⟨b, (pSame.rfl'.si (by decide)).trans hb1, hb2, ?_⟩
    rw [c_Rh_looked_85, if_neg (pN_n0 (by omega)), s_cell (r := 32) (n := 41) (i := i + 1) rfl rfl (by omega) (by decide), pCI, s_cell (r := 32) (n := 41) (i := i) rfl (pS1 (by omega)) (by omega) (by decide), pCI, e1, e2, ev, s_put (r := 32) (n := 41) (i := i + 1) rfl rfl (by omega) (by decide), pCV, pSm1 (show 1 ≤ i + 1 by omega), show i + 1 - 1 = i by omega]
    exact hb3
theorem s_lkM_in {x1 x2 x3 x4 : Int32} {n : Nat} (hn : n < 41) {f : Nat → Int32} : ∀ (i : Nat) (a : aH), i ≤ n → (∀ j, j ≤ i → a.1 59 j = f j) → (∀ j, i < j → j ≤ n → a.1 59 j = mLk x3 f j) → ∃ b, pSame [59] a b ∧ (∀ j, j ≤ n → b.1 59 j = mLk x3 f j) ∧ Lq G (d + 1) M_283 (95, [some (.ref 33), some (.int x1), some (.int x2), some (.int x3), some (.int x4), some (.int (Int32.ofNat i))], [], a) = Lq G (d + 1) M_283 (86, [some (.ref 33), some (.int x1), some (.int x2), some (.int x3), some (.int (x4 + 1)), none], [], b)
  | 0, a, hi, h1, h2 => by
    refine ⟨aSI a 59 0 (mLk x3 f 0), pSame.rfl'.si (by decide), ?_, ?_⟩
    · intro j hj
      by_cases h : j = 0
      · rw [h, pSI_at]
      · rw [pSI_of h]
        exact h2 j (by omega) hj
    · rw [c_Md_looked_95, if_neg (show ¬ Int32.ofNat 0 < 0 by decide), pIx (by decide) (by decide), if_pos (show Int32.ofNat 0 ≤ 0 by decide), pIx (by decide) (by decide), c_Md_looked_95, if_pos (show Int32.ofNat 0 + (-1) < 0 by decide), h1 0 (Nat.le_refl _)]
      rfl
  | i + 1, a, hi, h1, h2 => by
    have e1 : a.1 59 (i + 1) = f (i + 1) := h1 (i + 1) (Nat.le_refl _)
    have e2 : a.1 59 i = f i := h1 i (by omega)
    have ev : (f (i + 1) * (100 - x3) + f i * x3) / 100 = mLk x3 f (i + 1) := by
      unfold mLk
      rw [if_neg (by omega), show i + 1 - 1 = i by omega]
    obtain ⟨b, hb1, hb2, hb3⟩ := s_lkM_in (x1 := x1) (x2 := x2) (x3 := x3) (x4 := x4) hn (f := f) i (aSI a 59 (i + 1) (mLk x3 f (i + 1))) (by omega) (fun j hj => by rw [pSI_of (by omega)]; exact h1 j (by omega)) (fun j hj hj2 => by
      by_cases h : j = i + 1
      · rw [h, pSI_at]
      · rw [pSI_of h]
        exact h2 j (by omega) hj2)
    refine ⟨b, (pSame.rfl'.si (by decide)).trans hb1, hb2, ?_⟩
    rw [c_Md_looked_95, if_neg (pN_n0 (by omega)), pIx (by omega) (by decide), if_neg (show ¬ Int32.ofNat (i + 1) ≤ 0 from pNotLe.mpr ((pN_lt (a := 0) (by decide) (by omega)).mpr (by omega))), pIxL (i := i) (pS1 (by omega)) (by omega) (by decide), pIx (by omega) (by decide), e1, e2, ev, pSm1 (show 1 ≤ i + 1 by omega), show i + 1 - 1 = i by omega]
    exact hb3
theorem s_lookedC {n k : Nat} (h1 : 1 ≤ n) (h2 : n ≤ 40) (hk : k ≤ n) {x3 : Int32} : ∃ b, pSame [32] σ b ∧ Lq G (d + 1) M_282 (41, [some (.ref 0), some (.int (Int32.ofNat n)), some (.int (Int32.ofNat k)), some (.int x3), some (.int 0), none], [], σ) = oI (mLooked n k x3) b := by
  obtain ⟨a, ⟨ha1, ha2⟩, e1⟩ := pLoopR0 (G := G) (d := d + 1) (M := M_282) (fun i s => (41, [some (.ref 0), some (.int (Int32.ofNat n)), some (.int (Int32.ofNat k)), some (.int x3), some (.int (Int32.ofNat i)), none], [], s)) (fun i s => pSame [32] σ s ∧ ∀ j, j < i → s.1 32 j = mLkN x3 0 j) (n + 1) σ ⟨pSame.rfl', fun j hj => absurd hj (Nat.not_lt_zero j)⟩ (by
    intro i s hi ⟨p1, p2⟩
    refine ⟨aSI s 32 i (mLkN x3 0 i), ⟨p1.si (by decide), ?_⟩, ?_⟩
    · intro j hj
      by_cases h : j = i
      · rw [h, pSI_at]
      · rw [pSI_of h]
        exact p2 j (by omega)
    · rw [c_Rh_looked_41, if_neg (fun h => absurd ((pN_lt (by omega) (by omega)).mp h) (by omega))]
      by_cases h0 : i = 0
      · subst h0
        rw [if_pos (show Int32.ofNat 0 = 0 from rfl), s_put (r := 32) (n := 41) (i := 0) rfl rfl (by decide) (by decide), pCV]
        rfl
      · rw [if_neg (fun h => h0 ((pEqL (c := 0) (n := 0) rfl (by decide) (by omega)).mp h)), s_put (r := 32) (n := 41) (i := i) rfl rfl (by omega) (by decide), pCV, pN_s, show mLkN x3 0 i = 0 from if_neg h0])
  have e1' : Lq G (d + 1) M_282 (41, [some (.ref 0), some (.int (Int32.ofNat n)), some (.int (Int32.ofNat k)), some (.int x3), some (.int 0), none], [], σ) = Lq G (d + 1) M_282 (41, [some (.ref 0), some (.int (Int32.ofNat n)), some (.int (Int32.ofNat k)), some (.int x3), some (.int (Int32.ofNat (n + 1))), none], [], a) := e1
  obtain ⟨b, ⟨hb1, hb2⟩, e2⟩ := pLoopR0 (G := G) (d := d + 1) (M := M_282) (fun i s => (76, [some (.ref 0), some (.int (Int32.ofNat n)), some (.int (Int32.ofNat k)), some (.int x3), some (.int (Int32.ofNat i)), none], [], s)) (fun i s => pSame [32] σ s ∧ ∀ j, j ≤ n → s.1 32 j = mLkN x3 i j) n a ⟨ha1, fun j hj => ha2 j (by omega)⟩ (by
    intro i s hi ⟨p1, p2⟩
    obtain ⟨t, t1, t2, t3⟩ := s_lkC_in (G := G) (d := d) (x1 := Int32.ofNat n) (x2 := Int32.ofNat k) (x3 := x3) (x4 := Int32.ofNat i) (n := n) (by omega) (f := mLkN x3 i) n s (Nat.le_refl _) (fun j hj => p2 j hj) (fun j hj hj2 => absurd hj (by omega))
    refine ⟨t, ⟨p1.trans t1, fun j hj => t2 j hj⟩, ?_⟩
    rw [c_Rh_looked_76, if_neg (pGo hi (by omega)), t3, pN_s])
  have e2' : Lq G (d + 1) M_282 (76, [some (.ref 0), some (.int (Int32.ofNat n)), some (.int (Int32.ofNat k)), some (.int x3), some (.int 0), none], [], a) = Lq G (d + 1) M_282 (76, [some (.ref 0), some (.int (Int32.ofNat n)), some (.int (Int32.ofNat k)), some (.int x3), some (.int (Int32.ofNat n)), none], [], b) := e2
  refine ⟨b, hb1, ?_⟩
  rw [e1', c_Rh_looked_41, if_pos ((pN_lt (by omega) (by omega)).mpr (by omega)), e2', c_Rh_looked_76, if_pos pEnd]
  have e3 := pLoop (G := G) (d := d + 1) (M := M_282) (fun i v => (148, [some (.ref 0), some (.int (Int32.ofNat n)), none, none, some (.int v), some (.int (Int32.ofNat i))], [], b)) (fun i v => v + (if i ≤ n then mLkN x3 n i else 0)) (n + 1) (by
    intro i v hi
    show Lq G (d + 1) M_282 (148, [some (.ref 0), some (.int (Int32.ofNat n)), none, none, some (.int v), some (.int (Int32.ofNat i))], [], b) = Lq G (d + 1) M_282 (148, [some (.ref 0), some (.int (Int32.ofNat n)), none, none, some (.int (v + (if i ≤ n then mLkN x3 n i else 0))), some (.int (Int32.ofNat (i + 1)))], [], b)
    rw [c_Rh_looked_148, if_neg (fun h => absurd ((pN_lt (by omega) (by omega)).mp h) (by omega)), s_cell (r := 32) (n := 41) (i := i) rfl rfl (by omega) (by decide), pCI, hb2 i (by omega), if_pos (show i ≤ n by omega), pN_s]) (n + 1 - k) k 0 (by omega)
  have e3' : Lq G (d + 1) M_282 (148, [some (.ref 0), some (.int (Int32.ofNat n)), none, none, some (.int 0), some (.int (Int32.ofNat k))], [], b) = Lq G (d + 1) M_282 (148, [some (.ref 0), some (.int (Int32.ofNat n)), none, none, some (.int (pFo (fun i v => v + (if i ≤ n then mLkN x3 n i else 0)) (n + 1 - k) k 0)), some (.int (Int32.ofNat (n + 1)))], [], b) := e3
  rw [e3', c_Rh_looked_148, if_pos ((pN_lt (by omega) (by omega)).mpr (by omega))]
  unfold mLooked
  rw [pFo_congr (g := fun i a => a + mLkN x3 n i) (n + 1 - k) k 0 (fun j a h1 h2 => by rw [if_pos (show j ≤ n by omega)])]
theorem s_lookedM {n k : Nat} (h1 : 1 ≤ n) (h2 : n ≤ 40) (hk : k ≤ n) {x3 : Int32} : ∃ b, pSame [59] σ b ∧ Lq G (d + 1) M_283 (52, [some (.ref 33), some (.int (Int32.ofNat n)), some (.int (Int32.ofNat k)), some (.int x3), some (.int 0), none], [], σ) = oI (mLooked n k x3) b := by
  obtain ⟨a, ⟨ha1, ha2⟩, e1⟩ := pLoopR0 (G := G) (d := d + 1) (M := M_283) (fun i s => (52, [some (.ref 33), some (.int (Int32.ofNat n)), some (.int (Int32.ofNat k)), some (.int x3), some (.int (Int32.ofNat i)), none], [], s)) (fun i s => pSame [59] σ s ∧ ∀ j, j < i → s.1 59 j = mLkN x3 0 j) (n + 1) σ ⟨pSame.rfl', fun j hj => absurd hj (Nat.not_lt_zero j)⟩ (by
    intro i s hi ⟨p1, p2⟩
    refine ⟨aSI s 59 i (mLkN x3 0 i), ⟨p1.si (by decide), ?_⟩, ?_⟩
    · intro j hj
      by_cases h : j = i
      · rw [h, pSI_at]
      · rw [pSI_of h]
        exact p2 j (by omega)
    · rw [c_Md_looked_52, if_neg (fun h => absurd ((pN_lt (by omega) (by omega)).mp h) (by omega))]
      by_cases h0 : i = 0
      · subst h0
        rw [if_pos (show Int32.ofNat 0 = 0 from rfl), pIx (by decide) (by decide)]
        rfl
      · rw [if_neg (fun h => h0 ((pEqL (c := 0) (n := 0) rfl (by decide) (by omega)).mp h)), pIx (by omega) (by decide), pN_s, show mLkN x3 0 i = 0 from if_neg h0])
  have e1' : Lq G (d + 1) M_283 (52, [some (.ref 33), some (.int (Int32.ofNat n)), some (.int (Int32.ofNat k)), some (.int x3), some (.int 0), none], [], σ) = Lq G (d + 1) M_283 (52, [some (.ref 33), some (.int (Int32.ofNat n)), some (.int (Int32.ofNat k)), some (.int x3), some (.int (Int32.ofNat (n + 1))), none], [], a) := e1
  obtain ⟨b, ⟨hb1, hb2⟩, e2⟩ := pLoopR0 (G := G) (d := d + 1) (M := M_283) (fun i s => (86, [some (.ref 33), some (.int (Int32.ofNat n)), some (.int (Int32.ofNat k)), some (.int x3), some (.int (Int32.ofNat i)), none], [], s)) (fun i s => pSame [59] σ s ∧ ∀ j, j ≤ n → s.1 59 j = mLkN x3 i j) n a ⟨ha1, fun j hj => ha2 j (by omega)⟩ (by
    intro i s hi ⟨p1, p2⟩
    obtain ⟨t, t1, t2, t3⟩ := s_lkM_in (G := G) (d := d) (x1 := Int32.ofNat n) (x2 := Int32.ofNat k) (x3 := x3) (x4 := Int32.ofNat i) (n := n) (by omega) (f := mLkN x3 i) n s (Nat.le_refl _) (fun j hj => p2 j hj) (fun j hj hj2 => absurd hj (by omega))
    refine ⟨t, ⟨p1.trans t1, fun j hj => t2 j hj⟩, ?_⟩
    rw [c_Md_looked_86, if_neg (pGo hi (by omega)), t3, pN_s])
  have e2' : Lq G (d + 1) M_283 (86, [some (.ref 33), some (.int (Int32.ofNat n)), some (.int (Int32.ofNat k)), some (.int x3), some (.int 0), none], [], a) = Lq G (d + 1) M_283 (86, [some (.ref 33), some (.int (Int32.ofNat n)), some (.int (Int32.ofNat k)), some (.int x3), some (.int (Int32.ofNat n)), none], [], b) := e2
  refine ⟨b, hb1, ?_⟩
  rw [e1', c_Md_looked_52, if_pos ((pN_lt (by omega) (by omega)).mpr (by omega)), e2', c_Md_looked_86, if_pos pEnd]
  have e3 := pLoop (G := G) (d := d + 1) (M := M_283) (fun i v => (161, [some (.ref 33), some (.int (Int32.ofNat n)), none, none, some (.int v), some (.int (Int32.ofNat i))], [], b)) (fun i v => v + (if i ≤ n then mLkN x3 n i else 0)) (n + 1) (by
    intro i v hi
    show Lq G (d + 1) M_283 (161, [some (.ref 33), some (.int (Int32.ofNat n)), none, none, some (.int v), some (.int (Int32.ofNat i))], [], b) = Lq G (d + 1) M_283 (161, [some (.ref 33), some (.int (Int32.ofNat n)), none, none, some (.int (v + (if i ≤ n then mLkN x3 n i else 0))), some (.int (Int32.ofNat (i + 1)))], [], b)
    rw [c_Md_looked_161, if_neg (fun h => absurd ((pN_lt (by omega) (by omega)).mp h) (by omega)), pIx (by omega) (by decide), hb2 i (by omega), if_pos (show i ≤ n by omega), pN_s]) (n + 1 - k) k 0 (by omega)
  have e3' : Lq G (d + 1) M_283 (161, [some (.ref 33), some (.int (Int32.ofNat n)), none, none, some (.int 0), some (.int (Int32.ofNat k))], [], b) = Lq G (d + 1) M_283 (161, [some (.ref 33), some (.int (Int32.ofNat n)), none, none, some (.int (pFo (fun i v => v + (if i ≤ n then mLkN x3 n i else 0)) (n + 1 - k) k 0)), some (.int (Int32.ofNat (n + 1)))], [], b) := e3
  rw [e3', c_Md_looked_161, if_pos ((pN_lt (by omega) (by omega)).mpr (by omega))]
  unfold mLooked
  rw [pFo_congr (g := fun i a => a + mLkN x3 n i) (n + 1 - k) k 0 (fun j a h1 h2 => by rw [if_pos (show j ≤ n by omega)])]
theorem a_looked (ho : okAll m) (x y z : Int32) : Ask G 282 283 [.int x, .int y, .int z] [(1, 1)] m := by
  have out : ∀ {a b v : Int32}, v < a ∨ b < v → ¬ (a ≤ v ∧ v ≤ b) := fun h h2 => h.elim (fun h1 => absurd h1 (pNotLt.mpr h2.1)) (fun h1 => absurd h1 (pNotLt.mpr h2.2))
  rcases pBdI (x := x) (a := 1) (b := 40) with hx | hx
  · obtain ⟨n, hn, rfl⟩ : ∃ n : Nat, n < 41 ∧ x = Int32.ofNat n := by
      have t1 : (1 : Int) ≤ x.toInt := pLe.mp hx.1
      have t2 : x.toInt ≤ (40 : Int) := pLe.mp hx.2
      exact pN_ex2 (b := 41) (by decide) (pLe.mpr (by show (0 : Int) ≤ _; omega)) (pLt.mpr (by show _ < (41 : Int); omega))
    have hn1 : 1 ≤ n := (pN_le (a := 1) (by decide) (by omega)).mp hx.1
    rcases rngI (x := y) (n := n + 1) (by omega) with ⟨k, hk, rfl⟩ | hy
    · rcases pBdI (x := z) (a := 0) (b := 100) with hz | hz
      · refine Or.inl ⟨mLooked n k z, fun σ I => ?_, fun σ I => ?_⟩
        · obtain ⟨b, f, e⟩ := s_lookedC (G := G) (d := 58) (σ := σ) (x3 := z) hn1 (by omega) (show k ≤ n by omega)
          refine cOkS (σ' := b) ?_ f (by decide)
          rw [e_Rh_looked, if_neg (pNotLt.mpr hx.1), if_neg (pNotLt.mpr hx.2), if_neg (pN_n0 (by omega)), if_neg (fun h => absurd ((pN_lt (by omega) (by omega)).mp h) (by omega)), if_neg (pNotLt.mpr hz.1), if_neg (pNotLt.mpr hz.2), s_allow1, pXV, e]
        · obtain ⟨b, f, e⟩ := s_lookedM (G := G) (d := 58) (σ := aSI σ 33 0 0) (x3 := z) hn1 (by omega) (show k ≤ n by omega)
          refine rOkS (σ' := b) ?_ ((rS.rfl'.s33 (by decide)).trans (rS.of f (by decide))) ((congrFun (f.at (by decide)) 0).trans pSI_at)
          rw [e_Md_looked, s_within, pCI, pB0, if_pos hx, s_within, pCI, pB0, if_pos ⟨pN_0 (by omega), (pN_le (by omega) (by omega)).mpr (by omega)⟩, s_within, pCI, pB0, if_pos hz, s_r1, pCI, if_neg (by decide), e]
      · refine Or.inr ⟨(1, 1), by decide, fun σ I => cExI ?_, fun σ I => rExI (v := 0) ?_⟩
        · rw [e_Rh_looked, if_neg (pNotLt.mpr hx.1), if_neg (pNotLt.mpr hx.2), if_neg (pN_n0 (by omega)), if_neg (fun h => absurd ((pN_lt (by omega) (by omega)).mp h) (by omega)), s_allow0, pXVt]
          by_cases h0 : z < 0
          · rw [if_pos h0]
          · rw [if_neg h0, if_pos (hz.resolve_left h0)]
        · rw [e_Md_looked, s_within, pCI, pB0, if_pos hx, s_within, pCI, pB0, if_pos ⟨pN_0 (by omega), (pN_le (by omega) (by omega)).mpr (by omega)⟩, s_within, pCI, pB0, if_neg (out hz), s_r0 (by decide), pCI, if_pos rfl]
    · refine Or.inr ⟨(1, 1), by decide, fun σ I => cExI ?_, fun σ I => rExI (v := 0) ?_⟩
      · rw [e_Rh_looked, if_neg (pNotLt.mpr hx.1), if_neg (pNotLt.mpr hx.2), s_allow0, pXVt]
        by_cases h0 : y < 0
        · rw [if_pos h0]
        · rw [if_neg h0, if_pos (pBad (b := n) rfl (by omega) (hy.resolve_left h0))]
      · rw [e_Md_looked, s_within, pCI, pB0, if_pos hx, s_within, pCI, pB0, if_neg (pOut (b := n) rfl (by omega) hy), s_r0 (by decide), pCI, if_pos rfl]
  · refine Or.inr ⟨(1, 1), by decide, fun σ I => cExI ?_, fun σ I => rExI (v := 0) ?_⟩
    · rw [e_Rh_looked, s_allow0, pXVt]
      by_cases h0 : x < 1
      · rw [if_pos h0]
      · rw [if_neg h0, if_pos (hx.resolve_left h0)]
    · rw [e_Md_looked, s_within, pCI, pB0, if_neg (out hx), s_r0 (by decide), pCI, if_pos rfl]
end PLook
