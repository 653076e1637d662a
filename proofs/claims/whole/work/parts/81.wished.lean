/-! ===== wished ===== -/
theorem pAnd2 {ρ : Type} {P Q : Prop} {_ : Decidable P} {_ : Decidable Q} {a b : ρ} : (if P then (if Q then a else b) else b) = if P ∧ Q then a else b := by
  by_cases h : P
  · by_cases h2 : Q
    · rw [if_pos h, if_pos h2, if_pos ⟨h, h2⟩]
    · rw [if_pos h, if_neg h2, if_neg (fun q => h2 q.2)]
  · rw [if_neg h, if_neg (fun q => h q.1)]
/-- couples of a list, each with each -/
def pSq2 (f : Nat → Nat → Int32) (L : List Nat) : Int32 := pS (fun a => pS (fun b => f (L.getD a 0) (L.getD b 0)) L.length) L.length
theorem pSquare (P : Nat → Prop) {_ : DecidablePred P} {f g : Nat → Nat → Int32} (hg : ∀ i j, g i j = if P i ∧ P j then f i j else 0) (n : Nat) : pS (fun i => pS (fun j => g i j) n) n = pSq2 f ((List.range n).filter fun k => decide (P k)) := by
  unfold pSq2
  rw [pS_filter P (fun a => pS (fun b => f a (((List.range n).filter fun k => decide (P k)).getD b 0)) ((List.range n).filter fun k => decide (P k)).length) n]
  refine pS_congr n fun i _ => ?_
  by_cases h : P i
  · rw [if_pos h, pS_filter P (fun b => f i b) n]
    refine pS_congr n fun j _ => ?_
    rw [hg]
    by_cases h2 : P j
    · rw [if_pos ⟨h, h2⟩, if_pos h2]
    · rw [if_neg (fun q => h2 q.2), if_neg h2]
  · rw [if_neg h, pS_congr (g := fun _ => 0) n (fun j _ => by rw [hg, if_neg (fun q => h q.1)]), pS_zero]
section PWished
variable {G : Nat × (Nat → Int32)} {d : Nat} {σ : aH} {m : St}
/-- the first of a told sitting, the other of a like one that isn't, of one person -/
def pWc (h : Ho) (s : Sh) (i j : Nat) : Prop := s.2 i 16 = s.2 j 16 ∧ hS h (6 * mAt s i + 4) = 1 ∧ hS h (6 * mAt s j + 4) = 0 ∧ hS h (6 * mAt s i + 0) = hS h (6 * mAt s j + 0) ∧ hS h (6 * mAt s i + 1) = hS h (6 * mAt s j + 1) ∧ hS h (6 * mAt s i + 2) = hS h (6 * mAt s j + 2) ∧ hS h (6 * mAt s i + 3) = hS h (6 * mAt s j + 3)
def pWcD (h : Ho) (s : Sh) (i j : Nat) : Decidable (pWc h s i j) := by
  unfold pWc
  infer_instance
def mWiF (h : Ho) (s : Sh) (x : Int32) (i j : Nat) : Int32 := @ite Int32 (pWc h s i j) (pWcD h s i j) (if x = 0 then 1 else if mSum h s i false < mSum h s j false then 0 else 1) 0
def mWiG (h : Ho) (s : Sh) (x : Int32) (i j : Nat) : Int32 := if mOff h s i = -1 ∧ mOff h s j = -1 then mWiF h s x i j else 0
theorem s_isLike (q : cHo σ m.1) {p r w : Nat} (hp : p < hn m.1 1) (hr : r < hn m.1 1) (hp20 : p < 20) (hr20 : r < 20) (hw : w < 6) {x : Int32} (hx : x = Int32.ofNat w) : Rn G (d + 3) 262 [.ref 0, .int (Int32.ofNat p), .int (Int32.ofNat r), .int x] σ = oI (if hS m.1 (6 * p + w) = hS m.1 (6 * r + w) then 1 else 0) σ := by
  rw [e_Rh_isLike, s_toldS (i := p) (w := w) rfl hx hp20 hw, pCI, s_toldS (i := r) (w := w) rfl hx hr20 hw, pCI, q.2.2.1 p hp w hw, q.2.2.1 r hr w hw, pOI]
theorem s_isWished (q : cHo σ m.1) (ho : okAll m) (qs : cSh σ 13 m.2.1) (v : cSv σ m.1 m.2.1) {i j : Nat} (hi : i < m.2.1.1) (hj : j < m.2.1.1) : Rn G (d + 4) 261 [.ref 0, .int (Int32.ofNat i), .int (Int32.ofNat j)] σ = oI (@ite Int32 (mOff m.1 m.2.1 i = -1 ∧ mOff m.1 m.2.1 j = -1) _ (@ite Int32 (pWc m.1 m.2.1 i j) (pWcD m.1 m.2.1 i j) 1 0) 0) σ := by
  have h60 := ho.2.1.1
  have hk := ho.1
  obtain ⟨i1, i2, i3⟩ := mAt_ok hk ho.2.1 hi
  obtain ⟨j1, j2, j3⟩ := mAt_ok hk ho.2.1 hj
  rw [e_Rh_isWishedCouple, s_getN (x := 17) (c := 17) qs h60 hi (by decide) rfl, pCI, s_getN (x := 17) (c := 17) qs h60 hj (by decide) rfl, pCI, s_counts v h60 hi, pCI, pB0, s_counts v h60 hj, pCI, pB0, s_getN (x := 16) (c := 16) qs h60 hi (by decide) rfl, pCI, s_getN (x := 16) (c := 16) qs h60 hj (by decide) rfl, pCI, i1, j1, s_toldS (x3 := 4) (i := mAt m.2.1 i) (w := 4) rfl rfl i3 (by decide), pCI, s_toldS (x3 := 4) (i := mAt m.2.1 j) (w := 4) rfl rfl j3 (by decide), pCI, s_isLike q i2 j2 i3 j3 (show 0 < 6 by decide) (x := 0) rfl, pCI, pB0, s_isLike q i2 j2 i3 j3 (show 1 < 6 by decide) (x := 1) rfl, pCI, pB0, s_isLike q i2 j2 i3 j3 (show 2 < 6 by decide) (x := 2) rfl, pCI, pB0, s_isLike q i2 j2 i3 j3 (show 3 < 6 by decide) (x := 3) rfl, pCI, pB0, q.2.2.1 _ i2 4 (by decide), q.2.2.1 _ j2 4 (by decide)]
  rw [pAnd2, pAnd2, pAnd2, pAnd2, pAnd2, pAnd2, pAnd2, pAnd2, pOI]
  by_cases h : mOff m.1 m.2.1 i = -1 ∧ mOff m.1 m.2.1 j = -1
  · rw [if_pos h]
    by_cases h2 : pWc m.1 m.2.1 i j
    · rw [@if_pos _ (pWcD m.1 m.2.1 i j) h2, if_pos ⟨⟨⟨⟨⟨⟨⟨h, h2.1⟩, h2.2.1⟩, h2.2.2.1⟩, h2.2.2.2.1⟩, h2.2.2.2.2.1⟩, h2.2.2.2.2.2.1⟩, h2.2.2.2.2.2.2⟩]
    · rw [@if_neg _ (pWcD m.1 m.2.1 i j) h2, if_neg (fun k => h2 ⟨k.1.1.1.1.1.1.2, k.1.1.1.1.1.2, k.1.1.1.1.2, k.1.1.1.2, k.1.1.2, k.1.2, k.2⟩)]
  · rw [if_neg h, if_neg (fun k => h k.1.1.1.1.1.1.1)]
/-- the class's loops -/
theorem s_wishedC (q : cHo σ m.1) (ho : okAll m) (qs : cSh σ 13 m.2.1) (v : cSv σ m.1 m.2.1) {x : Int32} : Lq G (d + 5) M_260 (36, [some (.ref 0), some (.int x), some (.int 0), some (.int 0), none], [], σ) = oI (pS (fun i => pS (fun j => mWiG m.1 m.2.1 x i j) m.2.1.1) m.2.1.1) σ := by
  have h60 := ho.2.1.1
  have inner : ∀ (i : Nat) (a : Int32), i < m.2.1.1 → Lq G (d + 5) M_260 (50, [some (.ref 0), some (.int x), some (.int a), some (.int (Int32.ofNat i)), some (.int 0)], [], σ) = Lq G (d + 5) M_260 (36, [some (.ref 0), some (.int x), some (.int (a + pS (fun j => mWiG m.1 m.2.1 x i j) m.2.1.1)), some (.int (Int32.ofNat (i + 1))), none], [], σ) := by
    intro i a hi
    have e := pLoop0 (G := G) (d := d + 5) (M := M_260) (fun j (a : Int32) => (50, [some (.ref 0), some (.int x), some (.int a), some (.int (Int32.ofNat i)), some (.int (Int32.ofNat j))], [], σ)) (fun j a => a + mWiG m.1 m.2.1 x i j) m.2.1.1 a (by
      intro j a hj
      show Lq G (d + 5) M_260 (50, [some (.ref 0), some (.int x), some (.int a), some (.int (Int32.ofNat i)), some (.int (Int32.ofNat j))], [], σ) = Lq G (d + 5) M_260 (50, [some (.ref 0), some (.int x), some (.int (a + mWiG m.1 m.2.1 x i j)), some (.int (Int32.ofNat i)), some (.int (Int32.ofNat (j + 1)))], [], σ)
      rw [c_Rh_wished_50, qs.1, if_neg (pGo hj (by omega)), s_isWished q ho qs v hi hj, pCI]
      unfold mWiG mWiF
      by_cases h : mOff m.1 m.2.1 i = -1 ∧ mOff m.1 m.2.1 j = -1
      · rw [if_pos h, if_pos h]
        by_cases h2 : pWc m.1 m.2.1 i j
        · rw [@if_pos _ (pWcD m.1 m.2.1 i j) h2, @if_pos _ (pWcD m.1 m.2.1 i j) h2, if_neg (show ¬ (1 : Int32) = 0 by decide)]
          by_cases h3 : x = 0
          · rw [if_pos h3, if_pos h3, pN_s]
          · rw [if_neg h3, if_neg h3, s_feltOf v h60 hi, pCI, s_feltOf v h60 hj, pCI, pN_s]
            by_cases h4 : mSum m.1 m.2.1 i false < mSum m.1 m.2.1 j false
            · rw [if_pos h4, if_pos h4, Int32.add_zero]
            · rw [if_neg h4, if_neg h4]
        · rw [@if_neg _ (pWcD m.1 m.2.1 i j) h2, @if_neg _ (pWcD m.1 m.2.1 i j) h2, if_pos rfl, Int32.add_zero, pN_s]
      · rw [if_neg h, if_neg h, if_pos rfl, Int32.add_zero, pN_s])
    rw [pFo_sum0] at e
    refine Eq.trans e ?_
    show Lq G (d + 5) M_260 (50, [some (.ref 0), some (.int x), some (.int (a + pS (fun j => mWiG m.1 m.2.1 x i j) m.2.1.1)), some (.int (Int32.ofNat i)), some (.int (Int32.ofNat m.2.1.1))], [], σ) = _
    rw [c_Rh_wished_50, qs.1, if_pos pEnd, pN_s]
  have e := pLoop0 (G := G) (d := d + 5) (M := M_260) (fun i (a : Int32) => (36, [some (.ref 0), some (.int x), some (.int a), some (.int (Int32.ofNat i)), none], [], σ)) (fun i a => a + pS (fun j => mWiG m.1 m.2.1 x i j) m.2.1.1) m.2.1.1 0 (by
    intro i a hi
    show Lq G (d + 5) M_260 (36, [some (.ref 0), some (.int x), some (.int a), some (.int (Int32.ofNat i)), none], [], σ) = _
    rw [c_Rh_wished_36, qs.1, if_neg (pGo hi (by omega)), inner i a hi])
  rw [pFo_sum0, Int32.zero_add] at e
  refine Eq.trans e ?_
  show Lq G (d + 5) M_260 (36, [some (.ref 0), some (.int x), some (.int (pS (fun i => pS (fun j => mWiG m.1 m.2.1 x i j) m.2.1.1) m.2.1.1)), some (.int (Int32.ofNat m.2.1.1)), none], [], σ) = _
  rw [c_Rh_wished_36, qs.1, if_pos pEnd]
/-- the reference's loops -/
theorem s_wishedM (q : rHo σ m.1) (ho : okAll m) (qs : rSh σ 40 53 54 m.2.1) (g : rG σ (mCl m.1 m.2.1)) {x : Int32} : Lq G (d + 1) M_263 (37, [some (.ref 33), some (.int x), some (.int 0), some (.int 0), none, none, none, none, none], [], σ) = oI (pSq2 (mWiF m.1 m.2.1 x) (mCl m.1 m.2.1)) σ := by
  have h60 := ho.2.1.1
  have hk := ho.1
  have hl := mCl_len (h := m.1) (s := m.2.1)
  have deep0 : ∀ (a b : Nat) (c e f : Int32) (n k : Nat), k + n = 4 → Lq G (d + 1) M_263 (152, [some (.ref 33), some (.int x), some (.int c), some (.int e), some (.int f), some (.int (Int32.ofNat a)), some (.int (Int32.ofNat b)), some (.int 0), some (.int (Int32.ofNat k))], [], σ) = Lq G (d + 1) M_263 (48, [some (.ref 33), some (.int x), some (.int c), some (.int e), some (.int (f + 1)), none, none, none, none], [], σ) := by
    intro a b c e f n
    induction n with
    | zero =>
      intro k hk4
      have hk4 : k = 4 := hk4
      subst hk4
      rw [c_Md_wished_152, if_pos (pEndL (c := 4) (n := 4) rfl), if_pos rfl]
    | succ n ih =>
      intro k hk4
      rw [c_Md_wished_152, if_neg (pGoL (c := 4) (n := 4) rfl (by omega) (by decide)), if_pos rfl, pN_s, ih (k + 1) (by omega)]
  have inner : ∀ (i : Nat) (a : Int32), i < (mCl m.1 m.2.1).length → Lq G (d + 1) M_263 (48, [some (.ref 33), some (.int x), some (.int a), some (.int (Int32.ofNat i)), some (.int 0), none, none, none, none], [], σ) = Lq G (d + 1) M_263 (37, [some (.ref 33), some (.int x), some (.int (a + pS (fun b => mWiF m.1 m.2.1 x ((mCl m.1 m.2.1).getD i 0) ((mCl m.1 m.2.1).getD b 0)) (mCl m.1 m.2.1).length)), some (.int (Int32.ofNat (i + 1))), none, none, none, none, none], [], σ) := by
    intro i a hi
    obtain ⟨i1, i2⟩ := g.elem hi
    obtain ⟨p1, p2, p3⟩ := mAt_ok hk ho.2.1 i1
    have e := pLoop0 (G := G) (d := d + 1) (M := M_263) (fun j (a : Int32) => (48, [some (.ref 33), some (.int x), some (.int a), some (.int (Int32.ofNat i)), some (.int (Int32.ofNat j)), none, none, none, none], [], σ)) (fun j a => a + mWiF m.1 m.2.1 x ((mCl m.1 m.2.1).getD i 0) ((mCl m.1 m.2.1).getD j 0)) (mCl m.1 m.2.1).length a (by
      intro j a hj
      obtain ⟨j1, j2⟩ := g.elem hj
      obtain ⟨r1, r2, r3⟩ := mAt_ok hk ho.2.1 j1
      have fin : Lq G (d + 1) M_263 (152, [some (.ref 33), some (.int x), some (.int a), some (.int (Int32.ofNat i)), some (.int (Int32.ofNat j)), some (.int (Int32.ofNat ((mCl m.1 m.2.1).getD i 0))), some (.int (Int32.ofNat ((mCl m.1 m.2.1).getD j 0))), some (.int 1), some (.int (Int32.ofNat 4))], [], σ) = Lq G (d + 1) M_263 (48, [some (.ref 33), some (.int x), some (.int (a + (if x = 0 then 1 else if mSum m.1 m.2.1 ((mCl m.1 m.2.1).getD i 0) false < mSum m.1 m.2.1 ((mCl m.1 m.2.1).getD j 0) false then 0 else 1))), some (.int (Int32.ofNat i)), some (.int (Int32.ofNat j + 1)), none, none, none, none], [], σ) := by
        rw [c_Md_wished_152, if_pos (pEndL (c := 4) (n := 4) rfl), if_neg (show ¬ (1 : Int32) = 0 by decide)]
        by_cases h3 : x = 0
        · rw [if_pos h3, if_pos h3]
        · rw [if_neg h3, if_neg h3, s_sum q hk qs i1 h60 (sd := false) (x := 0) rfl, pCI, s_sum q hk qs j1 h60 (sd := false) (x := 0) rfl, pCI]
          by_cases h4 : mSum m.1 m.2.1 ((mCl m.1 m.2.1).getD i 0) false < mSum m.1 m.2.1 ((mCl m.1 m.2.1).getD j 0) false
          · rw [if_pos h4, if_pos h4, Int32.add_zero]
          · rw [if_neg h4, if_neg h4]
      have step : ∀ k, k < 4 → Lq G (d + 1) M_263 (152, [some (.ref 33), some (.int x), some (.int a), some (.int (Int32.ofNat i)), some (.int (Int32.ofNat j)), some (.int (Int32.ofNat ((mCl m.1 m.2.1).getD i 0))), some (.int (Int32.ofNat ((mCl m.1 m.2.1).getD j 0))), some (.int 1), some (.int (Int32.ofNat k))], [], σ) = if hS m.1 (6 * mAt m.2.1 ((mCl m.1 m.2.1).getD i 0) + k) = hS m.1 (6 * mAt m.2.1 ((mCl m.1 m.2.1).getD j 0) + k) then Lq G (d + 1) M_263 (152, [some (.ref 33), some (.int x), some (.int a), some (.int (Int32.ofNat i)), some (.int (Int32.ofNat j)), some (.int (Int32.ofNat ((mCl m.1 m.2.1).getD i 0))), some (.int (Int32.ofNat ((mCl m.1 m.2.1).getD j 0))), some (.int 1), some (.int (Int32.ofNat (k + 1)))], [], σ) else Lq G (d + 1) M_263 (48, [some (.ref 33), some (.int x), some (.int a), some (.int (Int32.ofNat i)), some (.int (Int32.ofNat j + 1)), none, none, none, none], [], σ) := by
        intro k hk4
        rw [c_Md_wished_152, if_neg (pGoL (c := 4) (n := 4) rfl hk4 (by decide)), if_neg (show ¬ (1 : Int32) = 0 by decide), s_inOf qs h60 i1, pCI, p1, pM6, pA, pIx (by omega) (by decide), s_inOf qs h60 j1, pCI, r1, pM6, pA, pIx (by omega) (by decide), q.2.2.1 _ p2 k (by omega), q.2.2.1 _ r2 k (by omega), pN_s, deep0 _ _ _ _ _ (4 - (k + 1)) (k + 1) (by omega)]
      show Lq G (d + 1) M_263 (48, [some (.ref 33), some (.int x), some (.int a), some (.int (Int32.ofNat i)), some (.int (Int32.ofNat j)), none, none, none, none], [], σ) = Lq G (d + 1) M_263 (48, [some (.ref 33), some (.int x), some (.int (a + mWiF m.1 m.2.1 x ((mCl m.1 m.2.1).getD i 0) ((mCl m.1 m.2.1).getD j 0))), some (.int (Int32.ofNat i)), some (.int (Int32.ofNat (j + 1))), none, none, none, none], [], σ)
      have d0 := fun c => deep0 ((mCl m.1 m.2.1).getD i 0) ((mCl m.1 m.2.1).getD j 0) c (Int32.ofNat i) (Int32.ofNat j) 4 0 rfl
      rw [c_Md_wished_48, g.1, if_neg (pGo hj (by omega)), pIx (by omega) (by decide), pIx (by omega) (by decide), i2, j2, pM17, pM17, pA15, pA15, pIx (by omega) (by decide), pIx (by omega) (by decide), (qs _ i1).2.1, (qs _ j1).2.1, s_inOf qs h60 i1, pCI, p1, pM6, pA4, pIx (by omega) (by decide), s_inOf qs h60 j1, pCI, r1, pM6, pA4, pIx (by omega) (by decide), q.2.2.1 _ p2 4 (by decide), q.2.2.1 _ r2 4 (by decide)]
      have d0' : ∀ c, Lq G (d + 1) M_263 (152, [some (.ref 33), some (.int x), some (.int c), some (.int (Int32.ofNat i)), some (.int (Int32.ofNat j)), some (.int (Int32.ofNat ((mCl m.1 m.2.1).getD i 0))), some (.int (Int32.ofNat ((mCl m.1 m.2.1).getD j 0))), some (.int 0), some (.int 0)], [], σ) = Lq G (d + 1) M_263 (48, [some (.ref 33), some (.int x), some (.int c), some (.int (Int32.ofNat i)), some (.int (Int32.ofNat j + 1)), none, none, none, none], [], σ) := d0
      have s0 := step 0 (by decide)
      have s0' : Lq G (d + 1) M_263 (152, [some (.ref 33), some (.int x), some (.int a), some (.int (Int32.ofNat i)), some (.int (Int32.ofNat j)), some (.int (Int32.ofNat ((mCl m.1 m.2.1).getD i 0))), some (.int (Int32.ofNat ((mCl m.1 m.2.1).getD j 0))), some (.int 1), some (.int 0)], [], σ) = _ := s0
      rw [d0', s0', step 1 (by decide), step 2 (by decide), step 3 (by decide), fin, pAnd2, pAnd2, pAnd2, pAnd2, pAnd2, pAnd2]
      unfold mWiF
      by_cases h2 : pWc m.1 m.2.1 ((mCl m.1 m.2.1).getD i 0) ((mCl m.1 m.2.1).getD j 0)
      · rw [@if_pos _ (pWcD m.1 m.2.1 _ _) h2, if_pos ⟨⟨⟨⟨⟨⟨h2.1, h2.2.1⟩, h2.2.2.1⟩, h2.2.2.2.1⟩, h2.2.2.2.2.1⟩, h2.2.2.2.2.2.1⟩, h2.2.2.2.2.2.2⟩, pN_s]
      · rw [@if_neg _ (pWcD m.1 m.2.1 _ _) h2, if_neg (fun k => h2 ⟨k.1.1.1.1.1.1, k.1.1.1.1.1.2, k.1.1.1.1.2, k.1.1.1.2, k.1.1.2, k.1.2, k.2⟩), pN_s, Int32.add_zero])
    rw [pFo_sum0] at e
    refine Eq.trans e ?_
    show Lq G (d + 1) M_263 (48, [some (.ref 33), some (.int x), some (.int (a + pS (fun b => mWiF m.1 m.2.1 x ((mCl m.1 m.2.1).getD i 0) ((mCl m.1 m.2.1).getD b 0)) (mCl m.1 m.2.1).length)), some (.int (Int32.ofNat i)), some (.int (Int32.ofNat (mCl m.1 m.2.1).length)), none, none, none, none], [], σ) = _
    rw [c_Md_wished_48, g.1, if_pos pEnd, pN_s]
  have e := pLoop0 (G := G) (d := d + 1) (M := M_263) (fun i (a : Int32) => (37, [some (.ref 33), some (.int x), some (.int a), some (.int (Int32.ofNat i)), none, none, none, none, none], [], σ)) (fun i a => a + pS (fun b => mWiF m.1 m.2.1 x ((mCl m.1 m.2.1).getD i 0) ((mCl m.1 m.2.1).getD b 0)) (mCl m.1 m.2.1).length) (mCl m.1 m.2.1).length 0 (by
    intro i a hi
    show Lq G (d + 1) M_263 (37, [some (.ref 33), some (.int x), some (.int a), some (.int (Int32.ofNat i)), none, none, none, none, none], [], σ) = _
    rw [c_Md_wished_37, g.1, if_neg (pGo hi (by omega)), inner i a hi])
  rw [pFo_sum0, Int32.zero_add] at e
  refine Eq.trans e ?_
  show Lq G (d + 1) M_263 (37, [some (.ref 33), some (.int x), some (.int (pSq2 (mWiF m.1 m.2.1 x) (mCl m.1 m.2.1))), some (.int (Int32.ofNat (mCl m.1 m.2.1).length)), none, none, none, none, none], [], σ) = _
  rw [c_Md_wished_37, g.1, if_pos pEnd]
theorem a_wished (ho : okAll m) (x : Int32) : Ask G 260 263 [.int x] [(0, 1)] m := by
  have eq : pS (fun i => pS (fun j => mWiG m.1 m.2.1 x i j) m.2.1.1) m.2.1.1 = pSq2 (mWiF m.1 m.2.1 x) (mCl m.1 m.2.1) := pSquare (fun k => mOff m.1 m.2.1 k = -1) (f := mWiF m.1 m.2.1 x) (g := mWiG m.1 m.2.1 x) (fun i j => rfl) m.2.1.1
  by_cases hx : x = 0 ∨ x = 1
  · refine Or.inl ⟨pSq2 (mWiF m.1 m.2.1 x) (mCl m.1 m.2.1), fun σ I => ?_, fun σ I => ?_⟩
    · obtain ⟨σ1, r1, f1, v1⟩ := s_siftI (G := G) (d := 52) I
      have e := s_wishedC (G := G) (d := 54) (I.2.1.1.ps f1 (by decide) (by decide) (by decide)) ho (I.2.1.2.1.ps f1 (by decide) (by decide)) v1 (x := x)
      refine cOkS (σ' := σ1) ?_ f1 (by decide)
      rw [e_Rh_wished, s_demand1, pXV, r1, pCV, e, eq]
      by_cases h0 : x = 0
      · rw [if_pos h0]
      · rw [if_neg h0, if_pos (hx.resolve_left h0)]
    · obtain ⟨σ1, r1, f1, g1, v1⟩ := s_gatherI (G := G) (d := 54) I
      have e := s_wishedM (G := G) (d := 58) (I.2.2.1.rs f1) ho (I.2.2.2.1.1.rs f1) v1 (x := x)
      refine rOkS (σ' := σ1) ?_ f1 g1
      rw [e_Md_wished, s_r1, pCI, if_neg (show ¬ (1 : Int32) = 0 by decide), r1, pCV, e]
      by_cases h0 : x = 0
      · rw [if_pos h0]
      · rw [if_neg h0, if_pos (hx.resolve_left h0)]
  · refine Or.inr ⟨(0, 1), by decide, fun σ I => cExI ?_, fun σ I => rExI (v := 0) ?_⟩
    · rw [e_Rh_wished, if_neg (fun h => hx (Or.inl h)), if_neg (fun h => hx (Or.inr h)), s_demand0, pXVt]
    · rw [e_Md_wished, if_neg (fun h => hx (Or.inl h)), if_neg (fun h => hx (Or.inr h)), s_r0 (by decide), pCI, if_pos rfl]
end PWished
