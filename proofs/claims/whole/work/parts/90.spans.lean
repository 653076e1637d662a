/-! ===== spans ===== -/
section PSpans
variable {G : Nat × (Nat → Int32)} {d : Nat} {σ : aH} {m : St}
def spP (h : Ho) (p : Nat) (si jo : Int32) (i : Nat) : Int32 := if i = 6 * p then si else if i = 6 * p + 1 then jo else hP h i
def spH (h : Ho) (s : Sh) (p l : Nat) (si jo : Int32) (k : Nat) : Nat → Int32 := mkH (spP h p si jo) (hS h) (hL h) p (mAt s k) l
def spD (h : Ho) (s : Sh) (p l : Nat) (si jo : Int32) (k : Nat) : Int32 := pDrift (spH h s p l si jo k) (pHeld (spH h s p l si jo k))
def spU (h : Ho) (s : Sh) (p l : Nat) (si jo : Int32) (k : Nat) : Int32 := if s.2 k 16 = Int32.ofNat p then pOff (s.2 k 12) (spD h s p l si jo k) else 0
def spV (h : Ho) (s : Sh) (p l : Nat) (si jo : Int32) : Int32 := pS (fun k => if mOff h s k = -1 then spU h s p l si jo k else 0) s.1
theorem spP_0 {h : Ho} {p : Nat} {si jo : Int32} : spP h p si jo (6 * p) = si := if_pos rfl
theorem spP_1 {h : Ho} {p : Nat} {si jo : Int32} : spP h p si jo (6 * p + 1) = jo := (if_neg (by omega)).trans (if_pos rfl)
theorem spP_k {h : Ho} {p k : Nat} {si jo : Int32} (h2 : 2 ≤ k) : spP h p si jo (6 * p + k) = hP h (6 * p + k) := (if_neg (by omega)).trans (if_neg (by omega))
theorem spH_r {h : Ho} {s : Sh} (hk : Hok h) (hs : Sok h s) {p l k : Nat} (hp : p < hn h 0) (hl : l < hn h 2) (h1 : k < s.1) {si jo : Int32} (bs : pBd si 1 99) (bj : pBd jo 1 99) : pHr (spH h s p l si jo k) := by
  obtain ⟨a0, a1, a2, a3, a4, a5⟩ := hk.2.1 p hp
  refine pHr_of (P := spP h p si jo) ⟨?_, ?_, ?_, ?_, ?_, ?_⟩ (hk.2.2.1 _ (mAt_ok hk hs h1).2.1) (hk.2.2.2.1 l hl)
  · rw [spP_0]; exact bs
  · rw [spP_1]; exact bj
  · rw [spP_k (by decide)]; exact a2
  · rw [spP_k (by decide)]; exact a3
  · rw [spP_k (by decide)]; exact a4
  · rw [spP_k (by decide)]; exact a5
theorem pOff_bd2 {a b : Int32} (ha : pBd a (-999) 999) (hb : pBd b (-999) 999) : pBd (pOff a b) 0 1998 := by
  obtain ⟨a0, a1⟩ := ha
  obtain ⟨b0, b1⟩ := hb
  unfold pOff
  by_cases h : b ≤ a
  · rw [if_pos h]
    rw [pLe] at h
    unfold pBd
    rw [pI_sub (by omega) (by omega)]
    omega
  · rw [if_neg h]
    rw [pLe] at h
    unfold pBd
    rw [pI_sub (by omega) (by omega)]
    omega
theorem spV_bd {h : Ho} {s : Sh} (hk : Hok h) (hs : Sok h s) {p l : Nat} (hp : p < hn h 0) (hl : l < hn h 2) {si jo : Int32} (bs : pBd si 1 99) (bj : pBd jo 1 99) : pBd (spV h s p l si jo) 0 (1998 * (s.1 : Int)) := by
  have h60 := hs.1
  refine pS_bd (by decide) s.1 (fun k hk2 => ?_) (by omega)
  have z : pBd 0 0 1998 := bd0 (by decide)
  by_cases h1 : mOff h s k = -1
  · rw [if_pos h1]
    unfold spU
    by_cases h2 : s.2 k 16 = Int32.ofNat p
    · rw [if_pos h2]
      have hr := spH_r hk hs hp hl hk2 bs bj
      exact pOff_bd2 (sCol_bd hs hk2 (by decide)) ((pDrift_bd hr (pHeld_bd hr)).mono (by decide) (by decide))
    · rw [if_neg h2]
      exact z
  · rw [if_neg h1]
    exact z
/-! the class: what differs together -/
theorem s_isCountingOf (qs : cSh σ 13 m.2.1) (v : cSv σ m.1 m.2.1) (h60 : m.2.1.1 ≤ 60) {k p : Nat} (hk : k < m.2.1.1) : Rn G (d + 3) 297 [.ref 0, .int (Int32.ofNat k), .int (Int32.ofNat p)] σ = oI (if mOff m.1 m.2.1 k = -1 ∧ m.2.1.2 k 16 = Int32.ofNat p then 1 else 0) σ := by
  rw [e_Rh_isCountingOf, s_counts v h60 hk, pCI, pB0]
  by_cases h1 : mOff m.1 m.2.1 k = -1
  · rw [if_pos h1, s_getN (x := 16) (c := 16) qs h60 hk (by decide) rfl, pCI, pOI]
    by_cases h2 : m.2.1.2 k 16 = Int32.ofNat p
    · rw [if_pos h2, if_pos ⟨h1, h2⟩]
    · rw [if_neg h2, if_neg (fun h => h2 h.2)]
  · rw [if_neg h1, if_neg (fun h => h1 h.1)]
theorem s_differs (q : cHo σ m.1) (ho : okAll m) (qs : cSh σ 13 m.2.1) (v : cSv σ m.1 m.2.1) {p l : Nat} (hp : p < hn m.1 0) (hl : l < hn m.1 2) {si jo : Int32} (bs : pBd si 1 99) (bj : pBd jo 1 99) (gP : pHcP σ p (spP m.1 p si jo)) (gL : pHcL σ l (hL m.1)) : ∃ σ', Rn G (d + 5) 298 [.ref 0, .int (Int32.ofNat p)] σ = oI (spV m.1 m.2.1 p l si jo) σ' ∧ pSame [24] σ σ' ∧ pHcP σ' p (spP m.1 p si jo) ∧ pHcL σ' l (hL m.1) := by
  have hk := ho.1
  have h60 := ho.2.1.1
  rw [e_Rh_differsTogether]
  obtain ⟨b, ⟨hb1, hb2, hb3, hb4⟩, e⟩ := pLoopR0 (G := G) (d := d + 4) (M := M_298) (fun i (a : Int32 × aH) => (4, [some (.ref 0), some (.int (Int32.ofNat p)), some (.int a.1), some (.int (Int32.ofNat i))], [], a.2)) (fun i a => pSame [24] σ a.2 ∧ pHcP a.2 p (spP m.1 p si jo) ∧ pHcL a.2 l (hL m.1) ∧ a.1 = pS (fun k => if mOff m.1 m.2.1 k = -1 then spU m.1 m.2.1 p l si jo k else 0) i) m.2.1.1 (0, σ) ⟨pSame.rfl', gP, gL, rfl⟩ (by
    intro i a hi ⟨ha1, ha2, ha3, ha4⟩
    have qa := q.ps ha1 (by decide) (by decide) (by decide)
    have qsa := qs.ps ha1 (by decide) (by decide)
    have va := v.ps ha1 (by decide)
    obtain ⟨e1, e2, e3⟩ := mAt_ok hk ho.2.1 hi
    by_cases h1 : mOff m.1 m.2.1 i = -1 ∧ m.2.1.2 i 16 = Int32.ofNat p
    · obtain ⟨σ1, r1, f1, g1, n1⟩ := s_takeSitting (G := G) (d := d + 1) (σ := a.2) e3
      have gP1 : pHcP σ1 p (spP m.1 p si jo) := fun k hk => (n1 k (Or.inl hk)).trans (ha2 k hk)
      have gL1 : pHcL σ1 l (hL m.1) := by
        obtain ⟨x0, x1, x2, x3⟩ := ha3
        exact ⟨(n1 12 (Or.inr (by decide))).trans x0, (n1 13 (Or.inr (by decide))).trans x1, (n1 14 (Or.inr (by decide))).trans x2, (n1 15 (Or.inr (by decide))).trans x3⟩
      have gS1 : pHcS σ1 (mAt m.2.1 i) (hS m.1) := fun k hk => (g1 k hk).trans (qa.2.2.1 _ e2 k hk)
      have g : pHc σ1 (spH m.1 m.2.1 p l si jo i) := pHc_of gP1 gS1 gL1
      have hr := spH_r hk ho.2.1 hp hl hi bs bj
      have f2 : pSame [24] σ (aSI σ1 24 16 (pHeld (spH m.1 m.2.1 p l si jo i))) := (ha1.trans f1).si (by decide)
      have eu : spU m.1 m.2.1 p l si jo i = pOff (m.2.1.2 i 12) (spD m.1 m.2.1 p l si jo i) := if_pos h1.2
      refine ⟨(a.1 + spU m.1 m.2.1 p l si jo i, aSI σ1 24 16 (pHeld (spH m.1 m.2.1 p l si jo i))), ⟨f2, fun k hk => (pSI_of (by omega)).trans (gP1 k hk), ?_, by rw [pS_succ, if_pos h1.1, ← ha4]⟩, ?_⟩
      · obtain ⟨x0, x1, x2, x3⟩ := gL1
        exact ⟨(pSI_of (by decide)).trans x0, (pSI_of (by decide)).trans x1, (pSI_of (by decide)).trans x2, (pSI_of (by decide)).trans x3⟩
      · show Lq G (d + 4) M_298 (4, [some (.ref 0), some (.int (Int32.ofNat p)), some (.int a.1), some (.int (Int32.ofNat i))], [], a.2) = Lq G (d + 4) M_298 (4, [some (.ref 0), some (.int (Int32.ofNat p)), some (.int (a.1 + spU m.1 m.2.1 p l si jo i)), some (.int (Int32.ofNat (i + 1)))], [], aSI σ1 24 16 (pHeld (spH m.1 m.2.1 p l si jo i)))
        rw [c_Rh_differsTogether_4, qsa.1, if_neg (pGo hi (by omega)), s_isCountingOf qsa va h60 hi, pCI, pB0, if_pos h1, s_getN (x := 17) (c := 17) qsa h60 hi (by decide) rfl, pCI, e1, r1, pCV, s_settle g hr, pCV, s_getN (x := 12) (c := 12) (qs.ps f2 (by decide) (by decide)) h60 hi (by decide) rfl, pCI, s_drift g.settled hr, pCI, pSI_at, s_offC, pCI, pN_s, eu]
        rfl
    · have eu : (if mOff m.1 m.2.1 i = -1 then spU m.1 m.2.1 p l si jo i else 0) = 0 := by
        by_cases h2 : mOff m.1 m.2.1 i = -1
        · rw [if_pos h2]
          exact if_neg fun h3 => h1 ⟨h2, h3⟩
        · exact if_neg h2
      refine ⟨a, ⟨ha1, ha2, ha3, by rw [pS_succ, eu, Int32.add_zero]; exact ha4⟩, ?_⟩
      show Lq G (d + 4) M_298 (4, [some (.ref 0), some (.int (Int32.ofNat p)), some (.int a.1), some (.int (Int32.ofNat i))], [], a.2) = _
      rw [c_Rh_differsTogether_4, qsa.1, if_neg (pGo hi (by omega)), s_isCountingOf qsa va h60 hi, pCI, pB0, if_neg h1, pN_s])
  refine ⟨b.2, ?_, hb1, hb2, hb3⟩
  refine Eq.trans e ?_
  show Lq G (d + 4) M_298 (4, [some (.ref 0), some (.int (Int32.ofNat p)), some (.int b.1), some (.int (Int32.ofNat m.2.1.1))], [], b.2) = _
  rw [c_Rh_differsTogether_4, (qs.ps hb1 (by decide) (by decide)).1, if_pos pEnd, hb4]
  rfl
/-! how many there are -/
def spC (h : Ho) (s : Sh) (p : Nat) : Nat → Nat
  | 0 => 0
  | n + 1 => spC h s p n + (if mOff h s n = -1 ∧ s.2 n 16 = Int32.ofNat p then 1 else 0)
theorem spC_le (h : Ho) (s : Sh) (p : Nat) : ∀ n, spC h s p n ≤ n
  | 0 => Nat.le_refl 0
  | n + 1 => by
    have := spC_le h s p n
    show spC h s p n + (if mOff h s n = -1 ∧ s.2 n 16 = Int32.ofNat p then 1 else 0) ≤ n + 1
    split <;> omega
theorem spC_sum (h : Ho) (s : Sh) (p : Nat) : ∀ n, pS (fun k => if mOff h s k = -1 then (if s.2 k 16 = Int32.ofNat p then 1 else 0) else 0) n = Int32.ofNat (spC h s p n)
  | 0 => rfl
  | n + 1 => by
    rw [pS_succ, spC_sum h s p n]
    show _ = Int32.ofNat (spC h s p n + (if mOff h s n = -1 ∧ s.2 n 16 = Int32.ofNat p then 1 else 0))
    by_cases h1 : mOff h s n = -1
    · by_cases h2 : s.2 n 16 = Int32.ofNat p
      · rw [if_pos h1, if_pos h2, if_pos ⟨h1, h2⟩, pN_s]
      · rw [if_pos h1, if_neg h2, if_neg (fun h => h2 h.2), Int32.add_zero]
        rfl
    · rw [if_neg h1, if_neg (fun h => h1 h.1), Int32.add_zero]
      rfl
theorem s_hasCounting (ho : okAll m) (qs : cSh σ 13 m.2.1) (v : cSv σ m.1 m.2.1) {p : Nat} : Rn G (d + 4) 296 [.ref 0, .int (Int32.ofNat p)] σ = oI (if spC m.1 m.2.1 p m.2.1.1 = 0 then 0 else 1) σ := by
  have h60 := ho.2.1.1
  rw [e_Rh_hasCounting]
  obtain ⟨b, hb, e⟩ := pLoopR0 (G := G) (d := d + 3) (M := M_296) (fun i (a : Int32) => (4, [some (.ref 0), some (.int (Int32.ofNat p)), some (.int a), some (.int (Int32.ofNat i))], [], σ)) (fun i a => a = if spC m.1 m.2.1 p i = 0 then 0 else 1) m.2.1.1 0 rfl (by
    intro i a hi ha
    refine ⟨if spC m.1 m.2.1 p (i + 1) = 0 then 0 else 1, rfl, ?_⟩
    have es : spC m.1 m.2.1 p (i + 1) = spC m.1 m.2.1 p i + (if mOff m.1 m.2.1 i = -1 ∧ m.2.1.2 i 16 = Int32.ofNat p then 1 else 0) := rfl
    rw [c_Rh_hasCounting_4, qs.1, if_neg (pGo hi (by omega)), s_isCountingOf qs v h60 hi, pCI, pB0, pN_s, ha, es]
    by_cases h0 : spC m.1 m.2.1 p i = 0
    · rw [if_pos h0, if_pos rfl]
      by_cases h1 : mOff m.1 m.2.1 i = -1 ∧ m.2.1.2 i 16 = Int32.ofNat p
      · rw [if_pos h1, if_pos h1, if_neg (by omega)]
      · rw [if_neg h1, if_neg h1, if_pos (by omega)]
    · rw [if_neg h0, if_neg (show ¬ (1 : Int32) = 0 by decide), if_neg (by omega)])
  refine Eq.trans e ?_
  show Lq G (d + 3) M_296 (4, [some (.ref 0), some (.int (Int32.ofNat p)), some (.int b), some (.int (Int32.ofNat m.2.1.1))], [], σ) = _
  rw [c_Rh_hasCounting_4, qs.1, if_pos pEnd, hb]
  by_cases h0 : spC m.1 m.2.1 p m.2.1.1 = 0
  · rw [if_pos h0]
    exact (if_pos (Or.inl rfl) : (if (0 : Int32) = 0 ∨ (0 : Int32) = 1 then oI 0 σ else none) = oI 0 σ)
  · rw [if_neg h0]
    exact (if_pos (Or.inr rfl) : (if (1 : Int32) = 0 ∨ (1 : Int32) = 1 then oI 1 σ else none) = oI 1 σ)
/-! the best -/
abbrev Sp : Type := Bool × Int32 × Int32 × Int32
def spStep (v si jo : Int32) (t : Sp) : Sp := if t.1 = true then (if v < t.2.1 then (true, v, si, jo) else t) else (true, v, si, jo)
def spCB (t : Sp) : Int32 := if t.1 = true then t.2.2.1 else -1
def spCJ (t : Sp) : Int32 := if t.1 = true then t.2.2.2 else -1
def spCL (t : Sp) : Int32 := if t.1 = true then t.2.1 else 0
def spRL (t : Sp) : Int32 := if t.1 = true then t.2.1 else -1
def spRB (t : Sp) : Int32 := if t.1 = true then t.2.2.1 else 0
def spRJ (t : Sp) : Int32 := if t.1 = true then t.2.2.2 else 0
def spOk (t : Sp) : Prop := t.1 = true → ¬ t.2.2.1 = -1 ∧ ¬ t.2.1 = -1
def spI (i : Nat) : Int32 := Int32.ofNat (10 * i + 5)
theorem spI_bd {i : Nat} (h : i < 10) : pBd (spI i) 1 99 := ⟨by unfold spI; rw [pN_int (by omega)]; omega, by unfold spI; rw [pN_int (by omega)]; omega⟩
theorem spI_n {i : Nat} (h : i < 10) : ¬ spI i = -1 := by
  unfold spI
  exact pNN1 (by omega)
theorem spI_s (i : Nat) : spI i + 10 = spI (i + 1) := by
  unfold spI
  rw [pA10, show 10 * i + 5 + 10 = 10 * (i + 1) + 5 by omega]
theorem spStep_t (v si jo : Int32) (t : Sp) : (spStep v si jo t).1 = true := by
  unfold spStep
  split
  · split
    · rfl
    · assumption
  · rfl
theorem spStep_ok {v si jo : Int32} {t : Sp} (h : spOk t) (hv : ¬ v = -1) (hs : ¬ si = -1) : spOk (spStep v si jo t) := by
  unfold spStep
  split
  · split
    · exact fun _ => ⟨hs, hv⟩
    · exact h
  · exact fun _ => ⟨hs, hv⟩
theorem spStep_C {v si jo : Int32} {t : Sp} (h : spOk t) {ρ : Type} {f : Int32 → Int32 → Int32 → ρ} : (if spCB t = -1 then f si jo v else if spCL t ≤ v then f (spCB t) (spCJ t) (spCL t) else f si jo v) = f (spCB (spStep v si jo t)) (spCJ (spStep v si jo t)) (spCL (spStep v si jo t)) := by
  unfold spStep spCB spCJ spCL
  by_cases h1 : t.1 = true
  · have h2 := (h h1).1
    simp only [if_pos h1, if_neg h2]
    by_cases h3 : v < t.2.1
    · simp only [if_pos h3, if_neg (fun h4 => absurd h3 (pNotLt.mpr h4)), if_true]
    · simp only [if_neg h3, if_pos (pNotLt.mp h3), if_pos h1]
  · simp only [if_neg h1, if_true]
theorem spStep_R {v si jo : Int32} {t : Sp} (h : spOk t) {ρ : Type} {f : Int32 → Int32 → Int32 → ρ} : (if spRL t = -1 then f v si jo else if v < spRL t then f v si jo else f (spRL t) (spRB t) (spRJ t)) = f (spRL (spStep v si jo t)) (spRB (spStep v si jo t)) (spRJ (spStep v si jo t)) := by
  unfold spStep spRL spRB spRJ
  by_cases h1 : t.1 = true
  · have h2 := (h h1).2
    simp only [if_pos h1, if_neg h2]
    by_cases h3 : v < t.2.1
    · simp only [if_pos h3, if_true]
    · simp only [if_neg h3, if_pos h1]
  · simp only [if_neg h1, if_true]
def spW (h : Ho) (s : Sh) (p l i j : Nat) : Int32 := spV h s p l (spI i) (spI j)
def spRow (h : Ho) (s : Sh) (p l i : Nat) (t : Sp) : Sp := pFo (fun j t => spStep (spW h s p l i j) (spI i) (spI j) t) 10 0 t
def spAll (h : Ho) (s : Sh) (p l : Nat) : Sp := pFo (spRow h s p l) 10 0 (false, 0, 0, 0)
theorem spAll_t (h : Ho) (s : Sh) (p l : Nat) : (spAll h s p l).1 = true := by
  unfold spAll
  rw [pFo_snoc]
  unfold spRow
  rw [pFo_snoc]
  exact spStep_t _ _ _ _
theorem spW_n {h : Ho} {s : Sh} (hk : Hok h) (hs : Sok h s) {p l i j : Nat} (hp : p < hn h 0) (hl : l < hn h 2) (hi : i < 10) (hj : j < 10) : ¬ spW h s p l i j = -1 := (spV_bd hk hs hp hl (spI_bd hi) (spI_bd hj)).nm1
/-- the class's head between two looks -/
def spG (σ : aH) (h : Ho) (p l : Nat) : Prop := (∀ k, 2 ≤ k → k < 6 → σ.1 24 k = hP h (6 * p + k)) ∧ pHcL σ l (hL h)
theorem s_spansC_row (q : cHo σ m.1) (ho : okAll m) (qs : cSh σ 13 m.2.1) (v : cSv σ m.1 m.2.1) {p l i : Nat} (hp : p < hn m.1 0) (hl : l < hn m.1 2) (hi : i < 10) (g : spG σ m.1 p l) {x : Int32} {t : Sp} (ht : spOk t) : ∃ σ', Lq G (d + 5) M_295 (112, [some (.ref 0), none, some (.int (Int32.ofNat p)), some (.int x), some (.int (spCB t)), some (.int (spCJ t)), some (.int (spCL t)), some (.int (spI i)), some (.int (spI 0)), none], [], σ) = Lq G (d + 5) M_295 (102, [some (.ref 0), none, some (.int (Int32.ofNat p)), some (.int x), some (.int (spCB (spRow m.1 m.2.1 p l i t))), some (.int (spCJ (spRow m.1 m.2.1 p l i t))), some (.int (spCL (spRow m.1 m.2.1 p l i t))), some (.int (spI (i + 1))), none, none], [], σ') ∧ pSame [24] σ σ' ∧ spG σ' m.1 p l ∧ spOk (spRow m.1 m.2.1 p l i t) := by
  obtain ⟨b, ⟨hb1, hb2, hb3, hb4⟩, e⟩ := pLoopR0 (G := G) (d := d + 5) (M := M_295) (fun j (a : Sp × aH) => (112, [some (.ref 0), none, some (.int (Int32.ofNat p)), some (.int x), some (.int (spCB a.1)), some (.int (spCJ a.1)), some (.int (spCL a.1)), some (.int (spI i)), some (.int (spI j)), none], [], a.2)) (fun j a => pSame [24] σ a.2 ∧ spG a.2 m.1 p l ∧ spOk a.1 ∧ a.1 = pFo (fun j t => spStep (spW m.1 m.2.1 p l i j) (spI i) (spI j) t) j 0 t) 10 (t, σ) ⟨pSame.rfl', g, ht, rfl⟩ (by
    intro j a hj ⟨ha1, ha2, ha3, ha4⟩
    have f0 : pSame [24] σ (aSI (aSI a.2 24 0 (spI i)) 24 1 (spI j)) := (ha1.si (by decide)).si (by decide)
    have gP : pHcP (aSI (aSI a.2 24 0 (spI i)) 24 1 (spI j)) p (spP m.1 p (spI i) (spI j)) := by
      intro k hk
      rcases (show k = 0 ∨ k = 1 ∨ 2 ≤ k by omega) with rfl | rfl | h2
      · rw [pSI_of (by decide), pSI_at]
        exact spP_0.symm
      · rw [pSI_at, spP_1]
      · rw [pSI_of (by omega), pSI_of (by omega), spP_k h2]
        exact ha2.1 k h2 hk
    have gL : pHcL (aSI (aSI a.2 24 0 (spI i)) 24 1 (spI j)) l (hL m.1) := by
      obtain ⟨x0, x1, x2, x3⟩ := ha2.2
      refine ⟨?_, ?_, ?_, ?_⟩ <;> rw [pSI_of (by decide), pSI_of (by decide)] <;> assumption
    obtain ⟨σ1, r1, f1, gP1, gL1⟩ := s_differs (G := G) (d := d) (q.ps f0 (by decide) (by decide) (by decide)) ho (qs.ps f0 (by decide) (by decide)) (v.ps f0 (by decide)) hp hl (spI_bd hi) (spI_bd hj) gP gL
    refine ⟨(spStep (spW m.1 m.2.1 p l i j) (spI i) (spI j) a.1, σ1), ⟨f0.trans f1, ⟨fun k h2 h6 => (gP1 k h6).trans (spP_k h2), gL1⟩, spStep_ok ha3 (spW_n ho.1 ho.2.1 hp hl hi hj) (spI_n hi), by rw [pFo_snoc, Nat.zero_add, ← ha4]⟩, ?_⟩
    show Lq G (d + 5) M_295 (112, [some (.ref 0), none, some (.int (Int32.ofNat p)), some (.int x), some (.int (spCB a.1)), some (.int (spCJ a.1)), some (.int (spCL a.1)), some (.int (spI i)), some (.int (spI j)), none], [], a.2) = _
    rw [c_Rh_spans_112, if_neg (show ¬ (95 : Int32) < spI j from pLB (c := 95) (b := 95) rfl (by omega) (by decide)), s_takeSpans, pCV, r1, pCI, spI_s]
    exact spStep_C ha3 (f := fun x4 x5 x6 => Lq G (d + 5) M_295 (112, [some (.ref 0), none, some (.int (Int32.ofNat p)), some (.int x), some (.int x4), some (.int x5), some (.int x6), some (.int (spI i)), some (.int (spI (j + 1))), none], [], σ1)))
  have hb4' : b.1 = spRow m.1 m.2.1 p l i t := hb4
  refine ⟨b.2, ?_, hb1, hb2, by rw [← hb4']; exact hb3⟩
  refine Eq.trans e ?_
  show Lq G (d + 5) M_295 (112, [some (.ref 0), none, some (.int (Int32.ofNat p)), some (.int x), some (.int (spCB b.1)), some (.int (spCJ b.1)), some (.int (spCL b.1)), some (.int (spI i)), some (.int (spI 10)), none], [], b.2) = _
  rw [c_Rh_spans_112, if_pos (show (95 : Int32) < spI 10 by decide), spI_s, hb4']
theorem s_spansC (q : cHo σ m.1) (ho : okAll m) (qs : cSh σ 13 m.2.1) (v : cSv σ m.1 m.2.1) {p l : Nat} (hp : p < hn m.1 0) (hl : l < hn m.1 2) (g : spG σ m.1 p l) {x : Int32} : ∃ σ', Lq G (d + 5) M_295 (102, [some (.ref 0), none, some (.int (Int32.ofNat p)), some (.int x), some (.int (-1)), some (.int (-1)), some (.int 0), some (.int 5), none, none], [], σ) = oI (if x = 2 then (spAll m.1 m.2.1 p l).2.1 else if x = 0 then (spAll m.1 m.2.1 p l).2.2.1 else (spAll m.1 m.2.1 p l).2.2.2) σ' ∧ pSame [24] σ σ' := by
  obtain ⟨b, ⟨hb1, hb2, hb3, hb4⟩, e⟩ := pLoopR0 (G := G) (d := d + 5) (M := M_295) (fun i (a : Sp × aH) => (102, [some (.ref 0), none, some (.int (Int32.ofNat p)), some (.int x), some (.int (spCB a.1)), some (.int (spCJ a.1)), some (.int (spCL a.1)), some (.int (spI i)), none, none], [], a.2)) (fun i a => pSame [24] σ a.2 ∧ spG a.2 m.1 p l ∧ spOk a.1 ∧ a.1 = pFo (spRow m.1 m.2.1 p l) i 0 (false, 0, 0, 0)) 10 ((false, 0, 0, 0), σ) ⟨pSame.rfl', g, fun h => (Bool.noConfusion h : _), rfl⟩ (by
    intro i a hi ⟨ha1, ha2, ha3, ha4⟩
    obtain ⟨σ1, r1, f1, g1, o1⟩ := s_spansC_row (G := G) (d := d) (q.ps ha1 (by decide) (by decide) (by decide)) ho (qs.ps ha1 (by decide) (by decide)) (v.ps ha1 (by decide)) hp hl hi ha2 (x := x) ha3
    refine ⟨(spRow m.1 m.2.1 p l i a.1, σ1), ⟨ha1.trans f1, g1, o1, by rw [pFo_snoc, Nat.zero_add, ← ha4]⟩, ?_⟩
    show Lq G (d + 5) M_295 (102, [some (.ref 0), none, some (.int (Int32.ofNat p)), some (.int x), some (.int (spCB a.1)), some (.int (spCJ a.1)), some (.int (spCL a.1)), some (.int (spI i)), none, none], [], a.2) = _
    rw [c_Rh_spans_102, if_neg (show ¬ (95 : Int32) < spI i from pLB (c := 95) (b := 95) rfl (by omega) (by decide))]
    exact r1)
  have hb4' : b.1 = spAll m.1 m.2.1 p l := hb4
  have et := spAll_t m.1 m.2.1 p l
  refine ⟨b.2, ?_, hb1⟩
  refine Eq.trans e ?_
  show Lq G (d + 5) M_295 (102, [some (.ref 0), none, some (.int (Int32.ofNat p)), some (.int x), some (.int (spCB b.1)), some (.int (spCJ b.1)), some (.int (spCL b.1)), some (.int (spI 10)), none, none], [], b.2) = _
  rw [c_Rh_spans_102, if_pos (show (95 : Int32) < spI 10 by decide), hb4', show spCL (spAll m.1 m.2.1 p l) = (spAll m.1 m.2.1 p l).2.1 from if_pos et, show spCB (spAll m.1 m.2.1 p l) = (spAll m.1 m.2.1 p l).2.2.1 from if_pos et, show spCJ (spAll m.1 m.2.1 p l) = (spAll m.1 m.2.1 p l).2.2.2 from if_pos et]
  by_cases h2 : x = 2
  · rw [if_pos h2, if_pos h2]
  · rw [if_neg h2, if_neg h2, pOI]
/-! the reference -/
theorem s_spansM_sum (q : rHo σ m.1) (ho : okAll m) (qs : rSh σ 40 53 54 m.2.1) (g : rG σ (mCl m.1 m.2.1)) {p l i j : Nat} (hp : p < hn m.1 0) (hl : l < hn m.1 2) (hi : i < 10) (hj : j < 10) {x x4 x5 x6 : Int32} : ∃ σ', Lq G (d + 6) M_299 (95, [some (.ref 33), some (.int (Int32.ofNat l)), some (.int (Int32.ofNat p)), some (.int x), some (.int x4), some (.int x5), some (.int x6), some (.int (spI i)), some (.int (spI j)), some (.int 0), some (.int 0), some (.int 0)], [], σ) = Lq G (d + 6) M_299 (95, [some (.ref 33), some (.int (Int32.ofNat l)), some (.int (Int32.ofNat p)), some (.int x), some (.int x4), some (.int x5), some (.int x6), some (.int (spI i)), some (.int (spI j)), some (.int (spW m.1 m.2.1 p l i j)), some (.int (Int32.ofNat (spC m.1 m.2.1 p m.2.1.1))), some (.int (Int32.ofNat (mCl m.1 m.2.1).length))], [], σ') ∧ pSame [50, 51] σ σ' := by
  have hk := ho.1
  have h60 := ho.2.1.1
  have hlen := mCl_len (h := m.1) (s := m.2.1)
  obtain ⟨k0, k1, k2, k3, _⟩ := hk.1
  obtain ⟨b, ⟨hb1, hb2, hb3⟩, e⟩ := pLoopR0 (G := G) (d := d + 6) (M := M_299) (fun n (a : (Int32 × Int32) × aH) => (95, [some (.ref 33), some (.int (Int32.ofNat l)), some (.int (Int32.ofNat p)), some (.int x), some (.int x4), some (.int x5), some (.int x6), some (.int (spI i)), some (.int (spI j)), some (.int a.1.1), some (.int a.1.2), some (.int (Int32.ofNat n))], [], a.2)) (fun n a => pSame [50, 51] σ a.2 ∧ a.1.1 = pFo (fun n b => b + spU m.1 m.2.1 p l (spI i) (spI j) ((mCl m.1 m.2.1).getD n 0)) n 0 0 ∧ a.1.2 = pFo (fun n b => b + (if m.2.1.2 ((mCl m.1 m.2.1).getD n 0) 16 = Int32.ofNat p then 1 else 0)) n 0 0) (mCl m.1 m.2.1).length ((0, 0), σ) ⟨pSame.rfl', rfl, rfl⟩ (by
    intro n a hn ⟨ha1, ha2, ha3⟩
    have ga := g.ps ha1 (by decide) (by decide)
    have qa := q.ps ha1 (by decide)
    have qsa := qs.ps ha1 (by decide)
    obtain ⟨g1, g2⟩ := ga.elem hn
    have o1 := (g.elem hn).1
    by_cases h1 : m.2.1.2 ((mCl m.1 m.2.1).getD n 0) 16 = Int32.ofNat p
    · obtain ⟨w1, w2, w3⟩ := mWho_ok hk ho.2.1 g1
      have ew : mWho m.2.1 ((mCl m.1 m.2.1).getD n 0) = p := by
        unfold mWho
        rw [h1, pN_cl (by omega)]
      obtain ⟨σ1, r1, f1, gh⟩ := s_asksSheet (G := G) (d := d + 4) qa ho qsa g1
      have gl := gh l hl
      have f2 : pSame [50, 51] a.2 (aSI (aSI σ1 50 0 (spI i)) 50 1 (spI j)) := (f1.si (by decide)).si (by decide)
      have qs2 := qsa.ps f2 (by decide)
      have q2 := qa.ps f2 (by decide)
      have gm : pHm (aSI (aSI σ1 50 0 (spI i)) 50 1 (spI j)) l (spH m.1 m.2.1 p l (spI i) (spI j) ((mCl m.1 m.2.1).getD n 0)) := by
        refine pHm_of (P := spP m.1 p (spI i) (spI j)) ?_ ?_ ?_
        · intro k hk6
          rcases (show k = 0 ∨ k = 1 ∨ 2 ≤ k by omega) with rfl | rfl | h2
          · rw [pSI_of (by decide), pSI_at]
            exact spP_0.symm
          · rw [pSI_at, spP_1]
          · rw [pSI_of (by omega), pSI_of (by omega), spP_k h2, gl.1 k hk6]
            unfold mHd mkH
            rw [if_pos hk6, ew]
        · intro k hk6
          rw [pSI_ne (by decide), pSI_ne (by decide), gl.2.1 k hk6]
          unfold mHd mkH
          rw [if_neg (by omega), if_pos (by omega), show 6 + k - 6 = k by omega]
        · intro k hk5
          rw [q2.2.2.2.1 l hl k hk5]
      have e56 : σ1.1 56 = a.2.1 56 := f1.at (by decide)
      have eu : spU m.1 m.2.1 p l (spI i) (spI j) ((mCl m.1 m.2.1).getD n 0) = pOff (m.2.1.2 ((mCl m.1 m.2.1).getD n 0) 12) (spD m.1 m.2.1 p l (spI i) (spI j) ((mCl m.1 m.2.1).getD n 0)) := if_pos h1
      refine ⟨((a.1.1 + spU m.1 m.2.1 p l (spI i) (spI j) ((mCl m.1 m.2.1).getD n 0), a.1.2 + 1), aSI (aSI σ1 50 0 (spI i)) 50 1 (spI j)), ⟨ha1.trans f2, by rw [pFo_snoc, Nat.zero_add, ← ha2], by rw [pFo_snoc, Nat.zero_add, ← ha3, if_pos h1]⟩, ?_⟩
      show Lq G (d + 6) M_299 (95, [some (.ref 33), some (.int (Int32.ofNat l)), some (.int (Int32.ofNat p)), some (.int x), some (.int x4), some (.int x5), some (.int x6), some (.int (spI i)), some (.int (spI j)), some (.int a.1.1), some (.int a.1.2), some (.int (Int32.ofNat n))], [], a.2) = Lq G (d + 6) M_299 (95, [some (.ref 33), some (.int (Int32.ofNat l)), some (.int (Int32.ofNat p)), some (.int x), some (.int x4), some (.int x5), some (.int x6), some (.int (spI i)), some (.int (spI j)), some (.int (a.1.1 + spU m.1 m.2.1 p l (spI i) (spI j) ((mCl m.1 m.2.1).getD n 0))), some (.int (a.1.2 + 1)), some (.int (Int32.ofNat (n + 1)))], [], aSI (aSI σ1 50 0 (spI i)) 50 1 (spI j))
      rw [c_Md_spans_95, ga.1, if_neg (pGo hn (by omega)), pIx (by omega) (by decide), g2, pM17, pA15, pIx (by omega) (by decide), (qsa _ g1).2.1, if_pos h1, pIx (by omega) (by decide), g2, r1, pCV, pIx (by omega) (by decide), e56, g2, s_shownOf qs2 h60 g1, pCI, s_driftBy (show l < 6 by omega) gm (spH_r hk ho.2.1 hp hl g1 (spI_bd hi) (spI_bd hj)), pCI, s_offM, pCI, pN_s, eu]
      rfl
    · have eu : spU m.1 m.2.1 p l (spI i) (spI j) ((mCl m.1 m.2.1).getD n 0) = 0 := if_neg h1
      refine ⟨a, ⟨ha1, by rw [pFo_snoc, Nat.zero_add, eu, Int32.add_zero]; exact ha2, by rw [pFo_snoc, Nat.zero_add, if_neg h1, Int32.add_zero]; exact ha3⟩, ?_⟩
      show Lq G (d + 6) M_299 (95, [some (.ref 33), some (.int (Int32.ofNat l)), some (.int (Int32.ofNat p)), some (.int x), some (.int x4), some (.int x5), some (.int x6), some (.int (spI i)), some (.int (spI j)), some (.int a.1.1), some (.int a.1.2), some (.int (Int32.ofNat n))], [], a.2) = _
      rw [c_Md_spans_95, ga.1, if_neg (pGo hn (by omega)), pIx (by omega) (by decide), g2, pM17, pA15, pIx (by omega) (by decide), (qsa _ g1).2.1, if_neg h1, pN_s])
  rw [pFo_list0 (fun k b => b + spU m.1 m.2.1 p l (spI i) (spI j) k), mCl_sum, Int32.zero_add] at hb2
  rw [pFo_list0 (fun k b => b + (if m.2.1.2 k 16 = Int32.ofNat p then 1 else 0)), mCl_sum (u := fun k => if m.2.1.2 k 16 = Int32.ofNat p then 1 else 0), Int32.zero_add, spC_sum] at hb3
  have hb2' : b.1.1 = spW m.1 m.2.1 p l i j := hb2
  refine ⟨b.2, ?_, hb1⟩
  refine Eq.trans e ?_
  rw [hb2', hb3]
theorem s_spansM_row (q : rHo σ m.1) (ho : okAll m) (qs : rSh σ 40 53 54 m.2.1) (g : rG σ (mCl m.1 m.2.1)) {p l i : Nat} (hp : p < hn m.1 0) (hl : l < hn m.1 2) (hi : i < 10) (hc : spC m.1 m.2.1 p m.2.1.1 ≠ 0) {x : Int32} {t : Sp} (ht : spOk t) : ∃ σ', Lq G (d + 6) M_299 (79, [some (.ref 33), some (.int (Int32.ofNat l)), some (.int (Int32.ofNat p)), some (.int x), some (.int (spRL t)), some (.int (spRB t)), some (.int (spRJ t)), some (.int (spI i)), some (.int (spI 0)), none, none, none], [], σ) = Lq G (d + 6) M_299 (69, [some (.ref 33), some (.int (Int32.ofNat l)), some (.int (Int32.ofNat p)), some (.int x), some (.int (spRL (spRow m.1 m.2.1 p l i t))), some (.int (spRB (spRow m.1 m.2.1 p l i t))), some (.int (spRJ (spRow m.1 m.2.1 p l i t))), some (.int (spI (i + 1))), none, none, none, none], [], σ') ∧ pSame [50, 51] σ σ' ∧ spOk (spRow m.1 m.2.1 p l i t) := by
  have h60 := ho.2.1.1
  have hc60 := spC_le m.1 m.2.1 p m.2.1.1
  obtain ⟨b, ⟨hb1, hb3, hb4⟩, e⟩ := pLoopR0 (G := G) (d := d + 6) (M := M_299) (fun j (a : Sp × aH) => (79, [some (.ref 33), some (.int (Int32.ofNat l)), some (.int (Int32.ofNat p)), some (.int x), some (.int (spRL a.1)), some (.int (spRB a.1)), some (.int (spRJ a.1)), some (.int (spI i)), some (.int (spI j)), none, none, none], [], a.2)) (fun j a => pSame [50, 51] σ a.2 ∧ spOk a.1 ∧ a.1 = pFo (fun j t => spStep (spW m.1 m.2.1 p l i j) (spI i) (spI j) t) j 0 t) 10 (t, σ) ⟨pSame.rfl', ht, rfl⟩ (by
    intro j a hj ⟨ha1, ha3, ha4⟩
    obtain ⟨σ1, r1, f1⟩ := s_spansM_sum (G := G) (d := d) (q.ps ha1 (by decide)) ho (qs.ps ha1 (by decide)) (g.ps ha1 (by decide) (by decide)) hp hl hi hj (x := x) (x4 := spRL a.1) (x5 := spRB a.1) (x6 := spRJ a.1)
    have g1 := (g.ps ha1 (by decide) (by decide)).ps f1 (by decide) (by decide)
    refine ⟨(spStep (spW m.1 m.2.1 p l i j) (spI i) (spI j) a.1, σ1), ⟨ha1.trans f1, spStep_ok ha3 (spW_n ho.1 ho.2.1 hp hl hi hj) (spI_n hi), by rw [pFo_snoc, Nat.zero_add, ← ha4]⟩, ?_⟩
    show Lq G (d + 6) M_299 (79, [some (.ref 33), some (.int (Int32.ofNat l)), some (.int (Int32.ofNat p)), some (.int x), some (.int (spRL a.1)), some (.int (spRB a.1)), some (.int (spRJ a.1)), some (.int (spI i)), some (.int (spI j)), none, none, none], [], a.2) = _
    rw [c_Md_spans_79, if_neg (show ¬ (100 : Int32) ≤ spI j from pGoL (c := 100) (n := 100) rfl (by omega) (by decide)), r1, c_Md_spans_95, g1.1, if_pos pEnd, if_neg (fun h : Int32.ofNat (spC m.1 m.2.1 p m.2.1.1) = 0 => hc ((pEqL (c := 0) (n := 0) rfl (by decide) (by omega)).mp h)), spI_s]
    exact spStep_R ha3 (f := fun x4 x5 x6 => Lq G (d + 6) M_299 (79, [some (.ref 33), some (.int (Int32.ofNat l)), some (.int (Int32.ofNat p)), some (.int x), some (.int x4), some (.int x5), some (.int x6), some (.int (spI i)), some (.int (spI (j + 1))), none, none, none], [], σ1)))
  have hb4' : b.1 = spRow m.1 m.2.1 p l i t := hb4
  refine ⟨b.2, ?_, hb1, by rw [← hb4']; exact hb3⟩
  refine Eq.trans e ?_
  show Lq G (d + 6) M_299 (79, [some (.ref 33), some (.int (Int32.ofNat l)), some (.int (Int32.ofNat p)), some (.int x), some (.int (spRL b.1)), some (.int (spRB b.1)), some (.int (spRJ b.1)), some (.int (spI i)), some (.int (spI 10)), none, none, none], [], b.2) = _
  rw [c_Md_spans_79, if_pos (show (100 : Int32) ≤ spI 10 by decide), spI_s, hb4']
theorem s_spansM (q : rHo σ m.1) (ho : okAll m) (qs : rSh σ 40 53 54 m.2.1) (g : rG σ (mCl m.1 m.2.1)) {p l : Nat} (hp : p < hn m.1 0) (hl : l < hn m.1 2) {x : Int32} : ∃ σ', Lq G (d + 6) M_299 (69, [some (.ref 33), some (.int (Int32.ofNat l)), some (.int (Int32.ofNat p)), some (.int x), some (.int (-1)), some (.int 0), some (.int 0), some (.int 5), none, none, none, none], [], σ) = oI (if spC m.1 m.2.1 p m.2.1.1 = 0 then -1 else if x = 0 then (spAll m.1 m.2.1 p l).2.2.1 else if x = 1 then (spAll m.1 m.2.1 p l).2.2.2 else (spAll m.1 m.2.1 p l).2.1) σ' ∧ pSame [50, 51] σ σ' := by
  by_cases hc : spC m.1 m.2.1 p m.2.1.1 = 0
  · obtain ⟨σ1, r1, f1⟩ := s_spansM_sum (G := G) (d := d) q ho qs g hp hl (i := 0) (j := 0) (by decide) (by decide) (x := x) (x4 := -1) (x5 := 0) (x6 := 0)
    have g1 := g.ps f1 (by decide) (by decide)
    refine ⟨σ1, ?_, f1⟩
    show Lq G (d + 6) M_299 (69, [some (.ref 33), some (.int (Int32.ofNat l)), some (.int (Int32.ofNat p)), some (.int x), some (.int (-1)), some (.int 0), some (.int 0), some (.int (spI 0)), none, none, none, none], [], σ) = _
    rw [c_Md_spans_69, if_neg (show ¬ (100 : Int32) ≤ spI 0 by decide), c_Md_spans_79, if_neg (show ¬ (100 : Int32) ≤ 5 by decide)]
    refine Eq.trans r1 ?_
    rw [c_Md_spans_95, g1.1, if_pos pEnd, hc, if_pos (show Int32.ofNat 0 = 0 from rfl), if_pos rfl]
  · obtain ⟨b, ⟨hb1, hb3, hb4⟩, e⟩ := pLoopR0 (G := G) (d := d + 6) (M := M_299) (fun i (a : Sp × aH) => (69, [some (.ref 33), some (.int (Int32.ofNat l)), some (.int (Int32.ofNat p)), some (.int x), some (.int (spRL a.1)), some (.int (spRB a.1)), some (.int (spRJ a.1)), some (.int (spI i)), none, none, none, none], [], a.2)) (fun i a => pSame [50, 51] σ a.2 ∧ spOk a.1 ∧ a.1 = pFo (spRow m.1 m.2.1 p l) i 0 (false, 0, 0, 0)) 10 ((false, 0, 0, 0), σ) ⟨pSame.rfl', fun h => (Bool.noConfusion h : _), rfl⟩ (by
      intro i a hi ⟨ha1, ha3, ha4⟩
      obtain ⟨σ1, r1, f1, o1⟩ := s_spansM_row (G := G) (d := d) (q.ps ha1 (by decide)) ho (qs.ps ha1 (by decide)) (g.ps ha1 (by decide) (by decide)) hp hl hi hc (x := x) ha3
      refine ⟨(spRow m.1 m.2.1 p l i a.1, σ1), ⟨ha1.trans f1, o1, by rw [pFo_snoc, Nat.zero_add, ← ha4]⟩, ?_⟩
      show Lq G (d + 6) M_299 (69, [some (.ref 33), some (.int (Int32.ofNat l)), some (.int (Int32.ofNat p)), some (.int x), some (.int (spRL a.1)), some (.int (spRB a.1)), some (.int (spRJ a.1)), some (.int (spI i)), none, none, none, none], [], a.2) = _
      rw [c_Md_spans_69, if_neg (show ¬ (100 : Int32) ≤ spI i from pGoL (c := 100) (n := 100) rfl (by omega) (by decide))]
      exact r1)
    have hb4' : b.1 = spAll m.1 m.2.1 p l := hb4
    have et := spAll_t m.1 m.2.1 p l
    refine ⟨b.2, ?_, hb1⟩
    refine Eq.trans e ?_
    show Lq G (d + 6) M_299 (69, [some (.ref 33), some (.int (Int32.ofNat l)), some (.int (Int32.ofNat p)), some (.int x), some (.int (spRL b.1)), some (.int (spRB b.1)), some (.int (spRJ b.1)), some (.int (spI 10)), none, none, none, none], [], b.2) = _
    rw [c_Md_spans_69, if_pos (show (100 : Int32) ≤ spI 10 by decide), hb4', show spRL (spAll m.1 m.2.1 p l) = (spAll m.1 m.2.1 p l).2.1 from if_pos et, show spRB (spAll m.1 m.2.1 p l) = (spAll m.1 m.2.1 p l).2.2.1 from if_pos et, show spRJ (spAll m.1 m.2.1 p l) = (spAll m.1 m.2.1 p l).2.2.2 from if_pos et, if_neg hc]
    by_cases h2 : x = 0
    · rw [if_pos h2, if_pos h2]
    · rw [if_neg h2, if_neg h2, pOI]
theorem a_spans (ho : okAll m) (x y z : Int32) : Ask G 295 299 [.int x, .int y, .int z] [(0, 1)] m := by
  have hk := ho.1
  obtain ⟨k0, k1, k2, _⟩ := hk.1
  rcases rngI (x := x) (n := hn m.1 2) (by omega) with ⟨l, hl, rfl⟩ | hx
  · rcases rngI (x := y) (n := hn m.1 0) (by omega) with ⟨p, hp, rfl⟩ | hy
    · rcases rngI (x := z) (n := 3) (by decide) with ⟨w, hw, ez⟩ | hz
      · have z0 : ¬ z < 0 := by rw [ez]; exact pN_n0 (by omega)
        have z2 : ¬ 2 < z := by rw [ez]; exact pLB (c := 2) (b := 2) rfl (by omega) (by decide)
        refine Or.inl ⟨if spC m.1 m.2.1 p m.2.1.1 = 0 then -1 else if z = 0 then (spAll m.1 m.2.1 p l).2.2.1 else if z = 1 then (spAll m.1 m.2.1 p l).2.2.2 else (spAll m.1 m.2.1 p l).2.1, fun σ I => ?_, fun σ I => ?_⟩
        · obtain ⟨σ1, r1, f1, v1⟩ := s_siftI (G := G) (d := 52) I
          obtain ⟨_, ⟨q, qs, _⟩, _⟩ := I
          have q1 := q.ps f1 (by decide) (by decide) (by decide)
          have qs1 := qs.ps f1 (by decide) (by decide)
          have hd : Rn G 60 295 [.ref 0, .int (Int32.ofNat l), .int (Int32.ofNat p), .int z] σ = if spC m.1 m.2.1 p m.2.1.1 = 0 then oI (-1) σ1 else aCV (Rn G 59 159 [.ref 24, .ref 3, .int (Int32.ofNat l)] σ1) fun σ9 => aCV (Rn G 59 160 [.ref 24, .ref 3, .int (Int32.ofNat p)] σ9) fun σ10 => Lq G 59 M_295 (102, [some (.ref 0), none, some (.int (Int32.ofNat p)), some (.int z), some (.int (-1)), some (.int (-1)), some (.int 0), some (.int 5), none, none], [], σ10) := by
            rw [e_Rh_spans, s_hasN (x1 := 2) (k := 2) rfl (by decide) (q.1 2 (by decide)) (by omega) (by omega), pCI, pB0, if_pos hl, s_hasN (x1 := 0) (k := 0) rfl (by decide) (q.1 0 (by decide)) (by omega) (by omega), pCI, pB0, if_pos hp, if_neg z0, if_neg z2, s_demand1, pXV, r1, pCV, s_hasCounting (d := 55) ho qs1 v1, pCI]
            by_cases hc : spC m.1 m.2.1 p m.2.1.1 = 0
            · rw [if_pos hc, if_pos hc, if_pos rfl]
            · rw [if_neg hc, if_neg hc, if_neg (show ¬ (1 : Int32) = 0 by decide)]
          by_cases hc : spC m.1 m.2.1 p m.2.1.1 = 0
          · rw [if_pos hc] at hd ⊢
            exact cOkS hd f1 (by decide)
          · rw [if_neg hc] at hd ⊢
            obtain ⟨σ2, σ3, r2, r3, f3, gP, gL⟩ := s_takeLP (G := G) (d := 56) q1 ho hl hp
            have f13 : pSame [17, 18, 19, 20, 21, 22, 23, 24] σ σ3 := (f1.mono (by decide)).trans (f3.mono (by decide))
            obtain ⟨σ4, r4, f4⟩ := s_spansC (G := G) (d := 54) (q1.ps f3 (by decide) (by decide) (by decide)) ho (qs1.ps f3 (by decide) (by decide)) (v1.ps f3 (by decide)) hp hl ⟨fun k _ h6 => gP k h6, gL⟩ (x := z)
            refine cOkS (σ' := σ4) ?_ (f13.trans (f4.mono (by decide))) (by decide)
            rw [hd, r2, pCV, r3, pCV, r4]
            rcases (show w = 0 ∨ w = 1 ∨ w = 2 by omega) with rfl | rfl | rfl
            · rw [ez, if_neg (show ¬ Int32.ofNat 0 = 2 by decide), if_pos (show Int32.ofNat 0 = 0 from rfl), if_pos (show Int32.ofNat 0 = 0 from rfl)]
            · rw [ez, if_neg (show ¬ Int32.ofNat 1 = 2 by decide), if_neg (show ¬ Int32.ofNat 1 = 0 by decide), if_neg (show ¬ Int32.ofNat 1 = 0 by decide), if_pos (show Int32.ofNat 1 = 1 from rfl)]
            · rw [ez, if_pos (show Int32.ofNat 2 = 2 from rfl), if_neg (show ¬ Int32.ofNat 2 = 0 by decide), if_neg (show ¬ Int32.ofNat 2 = 1 by decide)]
        · obtain ⟨σ1, r1, f1, g1, v1⟩ := s_gatherI (G := G) (d := 54) I
          obtain ⟨σ2, r2, f2⟩ := s_spansM (G := G) (d := 53) (I.2.2.1.rs f1) ho (I.2.2.2.1.1.rs f1) v1 hp hl (x := z)
          obtain ⟨_, _, ⟨q, _⟩⟩ := I
          have e1 : σ.1 33 1 = Int32.ofNat (hn m.1 0) := q.1 0 (by decide)
          have e3 : σ.1 33 3 = Int32.ofNat (hn m.1 2) := q.1 2 (by decide)
          refine rOkS (σ' := σ2) ?_ (f1.ps2 f2) ((congrFun (f2.at (by decide)) 0).trans g1)
          rw [e_Md_spans, if_neg (pN_n0 (by omega)), e3, if_neg (pGo hl (by omega)), if_neg (pN_n0 (by omega)), e1, if_neg (pGo hp (by omega)), s_within, pCI, pB0, if_pos ⟨pNotLt.mp z0, pNotLt.mp z2⟩, s_r1, pCI, if_neg (by decide), r1, pCV]
          exact r2
      · refine Or.inr ⟨(0, 1), by decide, fun σ I => cExI ?_, fun σ I => rExI (v := 0) ?_⟩
        · obtain ⟨_, ⟨q, _⟩, _⟩ := I
          rw [e_Rh_spans, s_hasN (x1 := 2) (k := 2) rfl (by decide) (q.1 2 (by decide)) (by omega) (by omega), pCI, pB0, if_pos hl, s_hasN (x1 := 0) (k := 0) rfl (by decide) (q.1 0 (by decide)) (by omega) (by omega), pCI, pB0, if_pos hp, s_demand0, pXVt]
          by_cases h0 : z < 0
          · rw [if_pos h0]
          · rw [if_neg h0, if_pos (pBad (c := 2) (b := 2) rfl (by decide) (hz.resolve_left h0))]
        · obtain ⟨_, _, ⟨q, _⟩⟩ := I
          have e1 : σ.1 33 1 = Int32.ofNat (hn m.1 0) := q.1 0 (by decide)
          have e3 : σ.1 33 3 = Int32.ofNat (hn m.1 2) := q.1 2 (by decide)
          rw [e_Md_spans, if_neg (pN_n0 (by omega)), e3, if_neg (pGo hl (by omega)), if_neg (pN_n0 (by omega)), e1, if_neg (pGo hp (by omega)), s_within, pCI, pB0, if_neg (pOut (c := 2) (b := 2) rfl (by decide) hz), s_r0 (by decide), pCI, if_pos rfl]
    · refine Or.inr ⟨(0, 1), by decide, fun σ I => cExI ?_, fun σ I => rExI (v := 0) ?_⟩
      · obtain ⟨_, ⟨q, _⟩, _⟩ := I
        rw [e_Rh_spans, s_hasN (x1 := 2) (k := 2) rfl (by decide) (q.1 2 (by decide)) (by omega) (by omega), pCI, pB0, if_pos hl, s_hasO (x1 := 0) (k := 0) rfl (by decide) (q.1 0 (by decide)) hy, pCI, if_pos rfl, s_demand0, pXVt]
      · obtain ⟨_, _, ⟨q, _⟩⟩ := I
        have e1 : σ.1 33 1 = Int32.ofNat (hn m.1 0) := q.1 0 (by decide)
        have e3 : σ.1 33 3 = Int32.ofNat (hn m.1 2) := q.1 2 (by decide)
        rw [e_Md_spans, if_neg (pN_n0 (by omega)), e3, if_neg (pGo hl (by omega)), e1, s_r0 (by decide), pCI, if_pos rfl]
        by_cases h0 : y < 0
        · rw [if_pos h0]
        · rw [if_neg h0, if_pos (hy.resolve_left h0)]
  · refine Or.inr ⟨(0, 1), by decide, fun σ I => cExI ?_, fun σ I => rExI (v := 0) ?_⟩
    · obtain ⟨_, ⟨q, _⟩, _⟩ := I
      rw [e_Rh_spans, s_hasO (x1 := 2) (k := 2) rfl (by decide) (q.1 2 (by decide)) hx, pCI, if_pos rfl, s_demand0, pXVt]
    · obtain ⟨_, _, ⟨q, _⟩⟩ := I
      have e3 : σ.1 33 3 = Int32.ofNat (hn m.1 2) := q.1 2 (by decide)
      rw [e_Md_spans, e3, s_r0 (by decide), pCI, if_pos rfl]
      by_cases h0 : x < 0
      · rw [if_pos h0]
      · rw [if_neg h0, if_pos (hx.resolve_left h0)]
end PSpans
