/-! ===== cold ===== -/
theorem pS_swap {f : Nat → Nat → Int32} (n : Nat) : ∀ q, pS (fun p => pS (fun k => f p k) n) q = pS (fun k => pS (fun p => f p k) q) n
  | 0 => by
    show (0 : Int32) = pS (fun k => 0) n
    rw [pS_zero]
  | q + 1 => by
    rw [pS_succ, pS_swap n q, ← pS_add]
    exact pS_congr n fun i _ => rfl
theorem pS_single {w : Nat} {g : Int32} : ∀ q, pS (fun p => if w = p then g else 0) q = if w < q then g else 0
  | 0 => by
    rw [if_neg (Nat.not_lt_zero w)]
    rfl
  | q + 1 => by
    rw [pS_succ, pS_single q]
    by_cases h : w = q
    · rw [if_neg (by omega), if_pos h, if_pos (by omega), Int32.zero_add]
    · rw [if_neg h, Int32.add_zero]
      by_cases h2 : w < q
      · rw [if_pos h2, if_pos (by omega)]
      · rw [if_neg h2, if_neg (by omega)]
theorem mCl_sum {h : Ho} {s : Sh} {u : Nat → Int32} {a : Int32} : (mCl h s).foldl (fun a k => a + u k) a = a + pS (fun k => if mOff h s k = -1 then u k else 0) s.1 := by
  have e2 : pFo (fun k a => if mOff h s k = -1 then a + u k else a) s.1 0 a = pFo (fun k a => a + (if mOff h s k = -1 then u k else 0)) s.1 0 a := pFo_congr s.1 0 a fun j b _ _ => by
    by_cases hj : mOff h s j = -1
    · rw [if_pos hj, if_pos hj]
    · rw [if_neg hj, if_neg hj, Int32.add_zero]
  have e' : pFo (fun k a => if mOff h s k = -1 then a + u k else a) s.1 0 a = (mCl h s).foldl (fun a k => a + u k) a := pFo_filter (fun k => mOff h s k = -1) (fun k a => a + u k) a s.1
  rw [← e', e2, pFo_sum0]
section PCold
variable {G : Nat × (Nat → Int32)} {d : Nat} {σ : aH} {m : St}
def cdIs (s : Sh) (k : Nat) : Int32 := if -2 < s.2 k 15 then 0 else 1
theorem cdIs_01 (s : Sh) (k : Nat) : cdIs s k = 0 ∨ cdIs s k = 1 := by
  unfold cdIs
  split
  · exact Or.inl rfl
  · exact Or.inr rfl
abbrev Cd : Type := Int32 × Int32 × Int32 × Int32 × Nat × Int32
def cdF (s : Sh) (p k : Nat) (t : Cd) : Cd := if s.2 k 16 = Int32.ofNat p then (if s.2 k 15 = 100 then t else (t.1 + 1, t.2.1 + cdIs s k, t.2.2.1 + (if t.2.2.2.2.1 = 1 then (if t.2.2.2.2.2 = 0 then 0 else 1) else 0), t.2.2.2.1 + (if t.2.2.2.2.1 = 1 then (if t.2.2.2.2.2 = 0 then 0 else cdIs s k) else 0), t.2.2.2.2.1 + 1, if t.2.2.2.2.1 = 0 then cdIs s k else t.2.2.2.2.2)) else t
def cdT (x1 : Int32) (p j : Nat) (t : Cd) (σ : aH) : aSt := (56, [some (.ref 33), some (.int x1), some (.int t.1), some (.int t.2.1), some (.int t.2.2.1), some (.int t.2.2.2.1), some (.int (Int32.ofNat p)), some (.int (Int32.ofNat t.2.2.2.2.1)), some (.int t.2.2.2.2.2), some (.int (Int32.ofNat j)), none, none], [], σ)
theorem cdF_n (s : Sh) (p k : Nat) (t : Cd) : (cdF s p k t).2.2.2.2.1 ≤ t.2.2.2.2.1 + 1 := by
  unfold cdF
  split
  · split
    · omega
    · exact Nat.le_refl _
  · omega
theorem s_coldStep (ho : okAll m) (qs : rSh σ 40 53 54 m.2.1) (g : rG σ (mCl m.1 m.2.1)) {x1 : Int32} {p j : Nat} (hj : j < (mCl m.1 m.2.1).length) : ∀ t : Cd, t.2.2.2.2.1 ≤ 60 → Lq G d M_306 (cdT x1 p j t σ) = Lq G d M_306 (cdT x1 p (j + 1) (cdF m.2.1 p ((mCl m.1 m.2.1).getD j 0) t) σ) := by
  have h60 := ho.2.1.1
  have hlen := mCl_len (h := m.1) (s := m.2.1)
  obtain ⟨g1, g2⟩ := g.elem hj
  obtain ⟨_, q15, _, q54, qc⟩ := qs _ g1
  intro t hn
  obtain ⟨c2, c3, c4, c5, n, f⟩ := t
  have hn : n ≤ 60 := hn
  generalize (mCl m.1 m.2.1).getD j 0 = k at g1 g2 q15 q54 qc ⊢
  unfold cdT
  show Lq G d M_306 (56, [some (.ref 33), some (.int x1), some (.int c2), some (.int c3), some (.int c4), some (.int c5), some (.int (Int32.ofNat p)), some (.int (Int32.ofNat n)), some (.int f), some (.int (Int32.ofNat j)), none, none], [], σ) = _
  rw [c_Md_cold_56, g.1, if_neg (pGo hj (by omega)), pIx (by omega) (by decide), g2, pM17, pA15, pIx (by omega) (by decide), q15]
  by_cases hw : m.2.1.2 k 16 = Int32.ofNat p
  · rw [if_pos hw, pIx (by omega) (by decide)]
    by_cases h54 : σ.1 54 k = 0
    · rw [if_pos h54] at qc
      have eF : cdF m.2.1 p k (c2, c3, c4, c5, n, f) = (c2, c3, c4, c5, n, f) := by
        unfold cdF
        rw [if_pos hw, if_pos qc]
      rw [if_pos h54, pN_s, eF]
    · rw [if_neg h54] at qc
      have eF : cdF m.2.1 p k (c2, c3, c4, c5, n, f) = (c2 + 1, c3 + cdIs m.2.1 k, c4 + (if n = 1 then (if f = 0 then 0 else 1) else 0), c5 + (if n = 1 then (if f = 0 then 0 else cdIs m.2.1 k) else 0), n + 1, if n = 0 then cdIs m.2.1 k else f) := by
        unfold cdF
        rw [if_pos hw, if_neg qc.2]
      rw [if_neg h54, pIx (by omega) (by decide), ← qc.1, pN_s j, pN_s n, eF]
      have z0 : (0 : Int32) = 0 := rfl
      have z1 : ¬ (1 : Int32) = 0 := by decide
      rcases (show n = 0 ∨ n = 1 ∨ 2 ≤ n by omega) with rfl | rfl | h2
      · have a1 : Int32.ofNat (0 + 1) = 1 := rfl
        have a2 : ¬ Int32.ofNat (0 + 1) = 2 := by decide
        have b0 : (0 : Nat) = 0 := rfl
        have b1 : ¬ (0 : Nat) = 1 := by decide
        by_cases hi : -2 < m.2.1.2 k 15
        · have ei : cdIs m.2.1 k = 0 := if_pos hi
          simp only [ei, if_true, if_false, if_pos hi, if_pos a1, if_neg a2, if_pos z0, if_neg z1, if_pos b0, if_neg b1]
        · have ei : cdIs m.2.1 k = 1 := if_neg hi
          simp only [ei, if_true, if_false, if_neg hi, if_pos a1, if_neg a2, if_pos z0, if_neg z1, if_pos b0, if_neg b1]
      · have a1 : ¬ Int32.ofNat (1 + 1) = 1 := by decide
        have a2 : Int32.ofNat (1 + 1) = 2 := rfl
        have b0 : ¬ (1 : Nat) = 0 := by decide
        have b1 : (1 : Nat) = 1 := rfl
        by_cases hi : -2 < m.2.1.2 k 15
        · have ei : cdIs m.2.1 k = 0 := if_pos hi
          by_cases hf : f = 0
          · simp only [ei, if_true, if_false, if_pos hi, if_neg a1, if_pos a2, if_pos z0, if_neg z1, if_neg b0, if_pos b1, if_pos hf]
          · simp only [ei, if_true, if_false, if_pos hi, if_neg a1, if_pos a2, if_pos z0, if_neg z1, if_neg b0, if_pos b1, if_neg hf]
        · have ei : cdIs m.2.1 k = 1 := if_neg hi
          by_cases hf : f = 0
          · simp only [ei, if_true, if_false, if_neg hi, if_neg a1, if_pos a2, if_pos z0, if_neg z1, if_neg b0, if_pos b1, if_pos hf]
          · simp only [ei, if_true, if_false, if_neg hi, if_neg a1, if_pos a2, if_pos z0, if_neg z1, if_neg b0, if_pos b1, if_neg hf]
      · have a1 : ¬ Int32.ofNat (n + 1) = 1 := fun e => absurd ((pEqL (c := 1) (n := 1) rfl (by decide) (by omega)).mp e) (by omega)
        have a2 : ¬ Int32.ofNat (n + 1) = 2 := fun e => absurd ((pEqL (c := 2) (n := 2) rfl (by decide) (by omega)).mp e) (by omega)
        have b0 : ¬ n = 0 := by omega
        have b1 : ¬ n = 1 := by omega
        by_cases hi : -2 < m.2.1.2 k 15
        · have ei : cdIs m.2.1 k = 0 := if_pos hi
          simp only [ei, if_true, if_false, if_pos hi, if_neg a1, if_neg a2, if_pos z0, if_neg z1, if_neg b0, if_neg b1]
        · have ei : cdIs m.2.1 k = 1 := if_neg hi
          simp only [ei, if_true, if_false, if_neg hi, if_neg a1, if_neg a2, if_pos z0, if_neg z1, if_neg b0, if_neg b1]
  · have eF : cdF m.2.1 p k (c2, c3, c4, c5, n, f) = (c2, c3, c4, c5, n, f) := by
      unfold cdF
      rw [if_neg hw]
    rw [if_neg hw, pN_s, eF]
abbrev C4 : Type := Int32 × Int32 × Int32 × Int32
def cdP (h : Ho) (s : Sh) (p : Nat) (t : C4) : Cd := (mCl h s).foldl (fun t k => cdF s p k t) (t.1, t.2.1, t.2.2.1, t.2.2.2, 0, 0)
def cdQ (h : Ho) (s : Sh) (p : Nat) (t : C4) : C4 := ((cdP h s p t).1, (cdP h s p t).2.1, (cdP h s p t).2.2.1, (cdP h s p t).2.2.2.1)
def cdAll (h : Ho) (s : Sh) : C4 := pFo (cdQ h s) (hn h 0) 0 (0, 0, 0, 0)
theorem s_coldM (q : rHo σ m.1) (ho : okAll m) (qs : rSh σ 40 53 54 m.2.1) (g : rG σ (mCl m.1 m.2.1)) {x1 : Int32} : Lq G d M_306 (38, [some (.ref 33), some (.int x1), some (.int 0), some (.int 0), some (.int 0), some (.int 0), some (.int 0), none, none, none, none, none], [], σ) = oI (if x1 = 0 then (cdAll m.1 m.2.1).1 else if x1 = 1 then (cdAll m.1 m.2.1).2.1 else if x1 = 2 then (cdAll m.1 m.2.1).2.2.1 else (cdAll m.1 m.2.1).2.2.2) σ := by
  have h60 := ho.2.1.1
  have h20 := ho.1.1.1
  have hlen := mCl_len (h := m.1) (s := m.2.1)
  have e1 : σ.1 33 1 = Int32.ofNat (hn m.1 0) := q.1 0 (by decide)
  have inner : ∀ (p : Nat) (t : C4), Lq G d M_306 (cdT x1 p 0 (t.1, t.2.1, t.2.2.1, t.2.2.2, 0, 0) σ) = Lq G d M_306 (cdT x1 p (mCl m.1 m.2.1).length (cdP m.1 m.2.1 p t) σ) := by
    intro p t
    obtain ⟨b, ⟨_, hb2⟩, e⟩ := pLoopR0 (G := G) (d := d) (M := M_306) (fun j (t : Cd) => cdT x1 p j t σ) (fun j u => u.2.2.2.2.1 ≤ j ∧ u = pFo (fun i t => cdF m.2.1 p ((mCl m.1 m.2.1).getD i 0) t) j 0 (t.1, t.2.1, t.2.2.1, t.2.2.2, 0, 0)) (mCl m.1 m.2.1).length (t.1, t.2.1, t.2.2.1, t.2.2.2, 0, 0) ⟨Nat.le_refl 0, rfl⟩ (by
      intro j u hj ⟨hu1, hu2⟩
      refine ⟨cdF m.2.1 p ((mCl m.1 m.2.1).getD j 0) u, ⟨?_, by rw [pFo_snoc, Nat.zero_add, ← hu2]⟩, s_coldStep ho qs g hj u (by omega)⟩
      have := cdF_n m.2.1 p ((mCl m.1 m.2.1).getD j 0) u
      omega)
    rw [pFo_list0 (cdF m.2.1 p)] at hb2
    rw [e, hb2]
    rfl
  have e := pLoop0 (G := G) (d := d) (M := M_306) (fun p (t : C4) => (38, [some (.ref 33), some (.int x1), some (.int t.1), some (.int t.2.1), some (.int t.2.2.1), some (.int t.2.2.2), some (.int (Int32.ofNat p)), none, none, none, none, none], [], σ)) (cdQ m.1 m.2.1) (hn m.1 0) (0, 0, 0, 0) (by
    intro p t hp
    show Lq G d M_306 (38, [some (.ref 33), some (.int x1), some (.int t.1), some (.int t.2.1), some (.int t.2.2.1), some (.int t.2.2.2), some (.int (Int32.ofNat p)), none, none, none, none, none], [], σ) = Lq G d M_306 (38, [some (.ref 33), some (.int x1), some (.int (cdQ m.1 m.2.1 p t).1), some (.int (cdQ m.1 m.2.1 p t).2.1), some (.int (cdQ m.1 m.2.1 p t).2.2.1), some (.int (cdQ m.1 m.2.1 p t).2.2.2), some (.int (Int32.ofNat (p + 1))), none, none, none, none, none], [], σ)
    rw [c_Md_cold_38, e1, if_neg (pGo hp (by omega))]
    refine Eq.trans (inner p t) ?_
    unfold cdT
    rw [c_Md_cold_56, g.1, if_pos pEnd, pN_s]
    rfl)
  refine Eq.trans e ?_
  show Lq G d M_306 (38, [some (.ref 33), some (.int x1), some (.int (cdAll m.1 m.2.1).1), some (.int (cdAll m.1 m.2.1).2.1), some (.int (cdAll m.1 m.2.1).2.2.1), some (.int (cdAll m.1 m.2.1).2.2.2), some (.int (Int32.ofNat (hn m.1 0))), none, none, none, none, none], [], σ) = _
  rw [c_Md_cold_38, e1, if_pos pEnd]
  by_cases h0 : x1 = 0
  · rw [if_pos h0, if_pos h0]
  · rw [if_neg h0, if_neg h0]
    by_cases h1 : x1 = 1
    · rw [if_pos h1, if_pos h1]
    · rw [if_neg h1, if_neg h1, pOI]
/-! what the reference's counts are -/
def cdLk (h : Ho) (s : Sh) (k : Nat) : Prop := mOff h s k = -1 ∧ ¬ s.2 k 15 = 100
def cdLkD (h : Ho) (s : Sh) (k : Nat) : Decidable (cdLk h s k) := by
  unfold cdLk
  infer_instance
def cdU (h : Ho) (s : Sh) (v : Nat → Int32) (k : Nat) : Int32 := @ite Int32 (cdLk h s k) (cdLkD h s k) (v k) 0
theorem cdP_12 (h : Ho) (s : Sh) (p : Nat) : ∀ (L : List Nat) (t : Cd), (L.foldl (fun t k => cdF s p k t) t).1 = L.foldl (fun a k => a + (if s.2 k 16 = Int32.ofNat p then (if s.2 k 15 = 100 then 0 else 1) else 0)) t.1 ∧ (L.foldl (fun t k => cdF s p k t) t).2.1 = L.foldl (fun a k => a + (if s.2 k 16 = Int32.ofNat p then (if s.2 k 15 = 100 then 0 else cdIs s k) else 0)) t.2.1
  | [], _ => ⟨rfl, rfl⟩
  | k :: L, t => by
    have e : (cdF s p k t).1 = t.1 + (if s.2 k 16 = Int32.ofNat p then (if s.2 k 15 = 100 then 0 else 1) else 0) ∧ (cdF s p k t).2.1 = t.2.1 + (if s.2 k 16 = Int32.ofNat p then (if s.2 k 15 = 100 then 0 else cdIs s k) else 0) := by
      unfold cdF
      by_cases h1 : s.2 k 16 = Int32.ofNat p
      · by_cases h2 : s.2 k 15 = 100
        · simp only [if_pos h1, if_pos h2, Int32.add_zero, and_self]
        · simp only [if_pos h1, if_neg h2, and_self]
      · simp only [if_neg h1, Int32.add_zero, and_self]
    obtain ⟨a, b⟩ := cdP_12 h s p L (cdF s p k t)
    rw [List.foldl_cons, List.foldl_cons, List.foldl_cons, a, b, e.1, e.2]
    exact ⟨rfl, rfl⟩
theorem cdAll_12 (hk : Hok m.1) (hs : Sok m.1 m.2.1) : (cdAll m.1 m.2.1).1 = pS (cdU m.1 m.2.1 fun _ => 1) m.2.1.1 ∧ (cdAll m.1 m.2.1).2.1 = pS (cdU m.1 m.2.1 (cdIs m.2.1)) m.2.1.1 := by
  have h20 := hk.1.1
  have gen : ∀ v : Nat → Int32, pS (fun p => pS (fun k => if mOff m.1 m.2.1 k = -1 then (if m.2.1.2 k 16 = Int32.ofNat p then (if m.2.1.2 k 15 = 100 then 0 else v k) else 0) else 0) m.2.1.1) (hn m.1 0) = pS (cdU m.1 m.2.1 v) m.2.1.1 := by
    intro v
    rw [pS_swap]
    refine pS_congr m.2.1.1 fun k hk2 => ?_
    obtain ⟨w, hw, hw20, ew⟩ := (hs.2 k hk2).who hk
    unfold cdU
    by_cases h1 : mOff m.1 m.2.1 k = -1
    · by_cases h2 : m.2.1.2 k 15 = 100
      · rw [@if_neg _ (cdLkD _ _ _) (fun h => h.2 h2)]
        rw [pS_congr (g := fun _ => 0) (hn m.1 0) (fun p _ => by rw [if_pos h1, if_pos h2, ite_self]), pS_zero]
      · rw [@if_pos _ (cdLkD _ _ _) (show cdLk m.1 m.2.1 k from ⟨h1, h2⟩)]
        rw [pS_congr (g := fun p => if w = p then v k else 0) (hn m.1 0) (fun p hp => by
          rw [if_pos h1, if_neg h2, ew]
          by_cases h3 : w = p
          · rw [if_pos (by rw [h3]), if_pos h3]
          · rw [if_neg (fun h4 => h3 ((pN_eq (by omega) (by omega)).mp h4)), if_neg h3]), pS_single, if_pos hw]
    · rw [@if_neg _ (cdLkD _ _ _) (fun h => h1 h.1)]
      rw [pS_congr (g := fun _ => 0) (hn m.1 0) (fun p _ => by rw [if_neg h1]), pS_zero]
  have st : ∀ n, (pFo (cdQ m.1 m.2.1) n 0 (0, 0, 0, 0)).1 = pS (fun p => pS (fun k => if mOff m.1 m.2.1 k = -1 then (if m.2.1.2 k 16 = Int32.ofNat p then (if m.2.1.2 k 15 = 100 then 0 else 1) else 0) else 0) m.2.1.1) n ∧ (pFo (cdQ m.1 m.2.1) n 0 (0, 0, 0, 0)).2.1 = pS (fun p => pS (fun k => if mOff m.1 m.2.1 k = -1 then (if m.2.1.2 k 16 = Int32.ofNat p then (if m.2.1.2 k 15 = 100 then 0 else cdIs m.2.1 k) else 0) else 0) m.2.1.1) n := by
    intro n
    induction n with
    | zero => exact ⟨rfl, rfl⟩
    | succ n ih =>
      rw [pFo_snoc, Nat.zero_add, pS_succ, pS_succ, ← ih.1, ← ih.2]
      generalize pFo (cdQ m.1 m.2.1) n 0 (0, 0, 0, 0) = t
      obtain ⟨a, b⟩ := cdP_12 m.1 m.2.1 n (mCl m.1 m.2.1) (t.1, t.2.1, t.2.2.1, t.2.2.2, 0, 0)
      rw [mCl_sum] at a b
      exact ⟨a, b⟩
  obtain ⟨a, b⟩ := st (hn m.1 0)
  exact ⟨a.trans (gen fun _ => 1), b.trans (gen (cdIs m.2.1))⟩
/-- the first from one on of those that Q; 60 where there is none -/
def pNx (Q : Nat → Bool) : Nat → Nat → Nat
  | 0, _ => 60
  | k + 1, i => if Q i = true then i else pNx Q k (i + 1)
theorem pNx_lt {Q : Nat → Bool} : ∀ (k i : Nat), pNx Q k i < 60 → i + k ≤ 60 → Q (pNx Q k i) = true ∧ pNx Q k i < i + k
  | 0, i, h, _ => absurd h (Nat.lt_irrefl 60)
  | k + 1, i, h, hk => by
    have e : pNx Q (k + 1) i = if Q i = true then i else pNx Q k (i + 1) := rfl
    rw [e] at h ⊢
    by_cases q : Q i = true
    · rw [if_pos q]
      exact ⟨q, by omega⟩
    · rw [if_neg q] at h ⊢
      obtain ⟨a, b⟩ := pNx_lt k (i + 1) h (by omega)
      exact ⟨a, by omega⟩
theorem pNx_le {Q : Nat → Bool} : ∀ (k i : Nat), i + k ≤ 60 → pNx Q k i ≤ 60
  | 0, i, _ => Nat.le_refl 60
  | k + 1, i, hk => by
    have e : pNx Q (k + 1) i = if Q i = true then i else pNx Q k (i + 1) := rfl
    rw [e]
    split
    · omega
    · exact pNx_le k (i + 1) (by omega)
def cdB (h : Ho) (s : Sh) (p k : Nat) : Bool := @decide (cdLk h s k ∧ s.2 k 16 = Int32.ofNat p) (@instDecidableAnd _ _ (cdLkD h s k) inferInstance)
theorem cdB_iff {h : Ho} {s : Sh} {p k : Nat} : cdB h s p k = true ↔ cdLk h s k ∧ s.2 k 16 = Int32.ofNat p := by
  unfold cdB
  exact @decide_eq_true_iff _ (@instDecidableAnd _ _ (cdLkD h s k) inferInstance)
def cdG (h : Ho) (s : Sh) (p k : Nat) (t : Cd) : Cd := if mOff h s k = -1 then cdF s p k t else t
theorem cdG_no {h : Ho} {s : Sh} {p k : Nat} (q : ¬ cdB h s p k = true) (t : Cd) : cdG h s p k t = t := by
  unfold cdG cdF
  by_cases h1 : mOff h s k = -1
  · rw [if_pos h1]
    by_cases h2 : s.2 k 16 = Int32.ofNat p
    · by_cases h3 : s.2 k 15 = 100
      · rw [if_pos h2, if_pos h3]
      · exact absurd (cdB_iff.mpr ⟨⟨h1, h3⟩, h2⟩) q
    · rw [if_neg h2]
  · rw [if_neg h1]
theorem cdG_yes {h : Ho} {s : Sh} {p k : Nat} (q : cdB h s p k = true) (t : Cd) : cdG h s p k t = (t.1 + 1, t.2.1 + cdIs s k, t.2.2.1 + (if t.2.2.2.2.1 = 1 then (if t.2.2.2.2.2 = 0 then 0 else 1) else 0), t.2.2.2.1 + (if t.2.2.2.2.1 = 1 then (if t.2.2.2.2.2 = 0 then 0 else cdIs s k) else 0), t.2.2.2.2.1 + 1, if t.2.2.2.2.1 = 0 then cdIs s k else t.2.2.2.2.2) := by
  obtain ⟨⟨h1, h3⟩, h2⟩ := cdB_iff.mp q
  unfold cdG cdF
  rw [if_pos h1, if_pos h2, if_neg h3]
/-- two have been: nothing more comes -/
theorem cdG_2 {h : Ho} {s : Sh} {p : Nat} : ∀ (k i : Nat) (t : Cd), 2 ≤ t.2.2.2.2.1 → (pFo (cdG h s p) k i t).2.2.1 = t.2.2.1 ∧ (pFo (cdG h s p) k i t).2.2.2.1 = t.2.2.2.1
  | 0, _, _, _ => ⟨rfl, rfl⟩
  | k + 1, i, t, ht => by
    have e : pFo (cdG h s p) (k + 1) i t = pFo (cdG h s p) k (i + 1) (cdG h s p i t) := rfl
    rw [e]
    by_cases q : cdB h s p i = true
    · rw [cdG_yes q]
      obtain ⟨a, b⟩ := cdG_2 (h := h) (s := s) (p := p) k (i + 1) (t.1 + 1, t.2.1 + cdIs s i, t.2.2.1 + (if t.2.2.2.2.1 = 1 then (if t.2.2.2.2.2 = 0 then 0 else 1) else 0), t.2.2.2.1 + (if t.2.2.2.2.1 = 1 then (if t.2.2.2.2.2 = 0 then 0 else cdIs s i) else 0), t.2.2.2.2.1 + 1, if t.2.2.2.2.1 = 0 then cdIs s i else t.2.2.2.2.2) (by show 2 ≤ t.2.2.2.2.1 + 1; omega)
      rw [a, b]
      show t.2.2.1 + (if t.2.2.2.2.1 = 1 then (if t.2.2.2.2.2 = 0 then 0 else 1) else 0) = t.2.2.1 ∧ t.2.2.2.1 + (if t.2.2.2.2.1 = 1 then (if t.2.2.2.2.2 = 0 then 0 else cdIs s i) else 0) = t.2.2.2.1
      rw [if_neg (by omega), if_neg (by omega), Int32.add_zero, Int32.add_zero]
      exact ⟨rfl, rfl⟩
    · rw [cdG_no q]
      exact cdG_2 k (i + 1) t ht
/-- one has been -/
theorem cdG_1 {h : Ho} {s : Sh} {p : Nat} : ∀ (k i : Nat) (t : Cd), t.2.2.2.2.1 = 1 → i + k ≤ 60 → (pFo (cdG h s p) k i t).2.2.1 = t.2.2.1 + (if 60 ≤ pNx (cdB h s p) k i then 0 else if t.2.2.2.2.2 = 0 then 0 else 1) ∧ (pFo (cdG h s p) k i t).2.2.2.1 = t.2.2.2.1 + (if 60 ≤ pNx (cdB h s p) k i then 0 else if t.2.2.2.2.2 = 0 then 0 else cdIs s (pNx (cdB h s p) k i))
  | 0, i, t, _, _ => by
    have e : pNx (cdB h s p) 0 i = 60 := rfl
    rw [e, if_pos (Nat.le_refl 60), if_pos (Nat.le_refl 60), Int32.add_zero, Int32.add_zero]
    exact ⟨rfl, rfl⟩
  | k + 1, i, t, ht, hk => by
    have e : pFo (cdG h s p) (k + 1) i t = pFo (cdG h s p) k (i + 1) (cdG h s p i t) := rfl
    have e2 : pNx (cdB h s p) (k + 1) i = if cdB h s p i = true then i else pNx (cdB h s p) k (i + 1) := rfl
    rw [e, e2]
    by_cases q : cdB h s p i = true
    · rw [cdG_yes q, if_pos q]
      obtain ⟨a, b⟩ := cdG_2 (h := h) (s := s) (p := p) k (i + 1) (t.1 + 1, t.2.1 + cdIs s i, t.2.2.1 + (if t.2.2.2.2.1 = 1 then (if t.2.2.2.2.2 = 0 then 0 else 1) else 0), t.2.2.2.1 + (if t.2.2.2.2.1 = 1 then (if t.2.2.2.2.2 = 0 then 0 else cdIs s i) else 0), t.2.2.2.2.1 + 1, if t.2.2.2.2.1 = 0 then cdIs s i else t.2.2.2.2.2) (by show 2 ≤ t.2.2.2.2.1 + 1; omega)
      rw [a, b]
      show t.2.2.1 + (if t.2.2.2.2.1 = 1 then (if t.2.2.2.2.2 = 0 then 0 else 1) else 0) = _ ∧ t.2.2.2.1 + (if t.2.2.2.2.1 = 1 then (if t.2.2.2.2.2 = 0 then 0 else cdIs s i) else 0) = _
      rw [if_pos ht, if_pos ht, if_neg (show ¬ 60 ≤ i by omega), if_neg (show ¬ 60 ≤ i by omega)]
      exact ⟨rfl, rfl⟩
    · rw [cdG_no q, if_neg q]
      exact cdG_1 k (i + 1) t ht (by omega)
/-- none has been -/
theorem cdG_0 {h : Ho} {s : Sh} {p n : Nat} (hn : n ≤ 60) : ∀ (k i : Nat) (t : Cd), t.2.2.2.2.1 = 0 → i + k = n → (pFo (cdG h s p) k i t).2.2.1 = t.2.2.1 + (if 60 ≤ pNx (cdB h s p) k i then 0 else if 60 ≤ pNx (cdB h s p) (n - (pNx (cdB h s p) k i + 1)) (pNx (cdB h s p) k i + 1) then 0 else if cdIs s (pNx (cdB h s p) k i) = 0 then 0 else 1) ∧ (pFo (cdG h s p) k i t).2.2.2.1 = t.2.2.2.1 + (if 60 ≤ pNx (cdB h s p) k i then 0 else if 60 ≤ pNx (cdB h s p) (n - (pNx (cdB h s p) k i + 1)) (pNx (cdB h s p) k i + 1) then 0 else if cdIs s (pNx (cdB h s p) k i) = 0 then 0 else cdIs s (pNx (cdB h s p) (n - (pNx (cdB h s p) k i + 1)) (pNx (cdB h s p) k i + 1)))
  | 0, i, t, _, _ => by
    have e : pNx (cdB h s p) 0 i = 60 := rfl
    rw [e, if_pos (Nat.le_refl 60), if_pos (Nat.le_refl 60), Int32.add_zero, Int32.add_zero]
    exact ⟨rfl, rfl⟩
  | k + 1, i, t, ht, hk => by
    have e : pFo (cdG h s p) (k + 1) i t = pFo (cdG h s p) k (i + 1) (cdG h s p i t) := rfl
    have e2 : pNx (cdB h s p) (k + 1) i = if cdB h s p i = true then i else pNx (cdB h s p) k (i + 1) := rfl
    rw [e, e2]
    by_cases q : cdB h s p i = true
    · rw [cdG_yes q, if_pos q, show n - (i + 1) = k by omega]
      obtain ⟨a, b⟩ := cdG_1 (h := h) (s := s) (p := p) k (i + 1) (t.1 + 1, t.2.1 + cdIs s i, t.2.2.1 + (if t.2.2.2.2.1 = 1 then (if t.2.2.2.2.2 = 0 then 0 else 1) else 0), t.2.2.2.1 + (if t.2.2.2.2.1 = 1 then (if t.2.2.2.2.2 = 0 then 0 else cdIs s i) else 0), t.2.2.2.2.1 + 1, if t.2.2.2.2.1 = 0 then cdIs s i else t.2.2.2.2.2) (by show t.2.2.2.2.1 + 1 = 1; omega) (by omega)
      rw [a, b]
      show t.2.2.1 + (if t.2.2.2.2.1 = 1 then (if t.2.2.2.2.2 = 0 then 0 else 1) else 0) + (if 60 ≤ pNx (cdB h s p) k (i + 1) then 0 else if (if t.2.2.2.2.1 = 0 then cdIs s i else t.2.2.2.2.2) = 0 then 0 else 1) = _ ∧ t.2.2.2.1 + (if t.2.2.2.2.1 = 1 then (if t.2.2.2.2.2 = 0 then 0 else cdIs s i) else 0) + (if 60 ≤ pNx (cdB h s p) k (i + 1) then 0 else if (if t.2.2.2.2.1 = 0 then cdIs s i else t.2.2.2.2.2) = 0 then 0 else cdIs s (pNx (cdB h s p) k (i + 1))) = _
      rw [if_neg (show ¬ t.2.2.2.2.1 = 1 by omega), if_neg (show ¬ t.2.2.2.2.1 = 1 by omega), if_pos ht, Int32.add_zero, Int32.add_zero, if_neg (show ¬ 60 ≤ i by omega), if_neg (show ¬ 60 ≤ i by omega)]
      exact ⟨rfl, rfl⟩
    · rw [cdG_no q, if_neg q]
      exact cdG_0 hn k (i + 1) t ht (by omega)
def cdN1 (h : Ho) (s : Sh) (p : Nat) : Nat := pNx (cdB h s p) s.1 0
def cdN2 (h : Ho) (s : Sh) (p : Nat) : Nat := pNx (cdB h s p) (s.1 - (cdN1 h s p + 1)) (cdN1 h s p + 1)
def cdC (h : Ho) (s : Sh) (p : Nat) : Int32 := if 60 ≤ cdN1 h s p then 0 else if 60 ≤ cdN2 h s p then 0 else if cdIs s (cdN1 h s p) = 0 then 0 else 1
def cdD (h : Ho) (s : Sh) (p : Nat) : Int32 := if 60 ≤ cdN1 h s p then 0 else if 60 ≤ cdN2 h s p then 0 else if cdIs s (cdN1 h s p) = 0 then 0 else cdIs s (cdN2 h s p)
theorem cdAll_34 (hs : Sok m.1 m.2.1) : (cdAll m.1 m.2.1).2.2.1 = pS (cdC m.1 m.2.1) (hn m.1 0) ∧ (cdAll m.1 m.2.1).2.2.2 = pS (cdD m.1 m.2.1) (hn m.1 0) := by
  have st : ∀ n, (pFo (cdQ m.1 m.2.1) n 0 (0, 0, 0, 0)).2.2.1 = pS (cdC m.1 m.2.1) n ∧ (pFo (cdQ m.1 m.2.1) n 0 (0, 0, 0, 0)).2.2.2 = pS (cdD m.1 m.2.1) n := by
    intro n
    induction n with
    | zero => exact ⟨rfl, rfl⟩
    | succ n ih =>
      rw [pFo_snoc, Nat.zero_add, pS_succ, pS_succ, ← ih.1, ← ih.2]
      generalize pFo (cdQ m.1 m.2.1) n 0 (0, 0, 0, 0) = t
      have e' : pFo (cdG m.1 m.2.1 n) m.2.1.1 0 (t.1, t.2.1, t.2.2.1, t.2.2.2, 0, 0) = cdP m.1 m.2.1 n t := pFo_filter (fun k => mOff m.1 m.2.1 k = -1) (cdF m.2.1 n) (t.1, t.2.1, t.2.2.1, t.2.2.2, 0, 0) m.2.1.1
      obtain ⟨a, b⟩ := cdG_0 (h := m.1) (s := m.2.1) (p := n) hs.1 m.2.1.1 0 (t.1, t.2.1, t.2.2.1, t.2.2.2, 0, 0) rfl (Nat.zero_add _)
      rw [e'] at a b
      exact ⟨a, b⟩
  exact st (hn m.1 0)
/-! the class's -/
theorem s_wasLooked (qs : cSh σ 13 m.2.1) (v : cSv σ m.1 m.2.1) (h60 : m.2.1.1 ≤ 60) {k : Nat} (hk : k < m.2.1.1) : Rn G (d + 3) 304 [.ref 0, .int (Int32.ofNat k)] σ = oI (@ite Int32 (cdLk m.1 m.2.1 k) (cdLkD m.1 m.2.1 k) 1 0) σ := by
  rw [e_Rh_wasLooked, s_counts v h60 hk, pCI, pB0]
  by_cases h1 : mOff m.1 m.2.1 k = -1
  · rw [if_pos h1, s_getN (x := 15) (c := 15) qs h60 hk (by decide) rfl, pCI]
    by_cases h2 : m.2.1.2 k 15 = 100
    · rw [if_pos h2, @if_neg _ (cdLkD _ _ _) (fun h => h.2 h2)]
    · rw [if_neg h2, @if_pos _ (cdLkD _ _ _) (show cdLk m.1 m.2.1 k from ⟨h1, h2⟩)]
  · rw [if_neg h1, @if_neg _ (cdLkD _ _ _) (fun h => h1 h.1)]
theorem s_wasFound (qs : cSh σ 13 m.2.1) (v : cSv σ m.1 m.2.1) (h60 : m.2.1.1 ≤ 60) {k : Nat} (hk : k < m.2.1.1) : Rn G (d + 4) 305 [.ref 0, .int (Int32.ofNat k)] σ = oI (cdU m.1 m.2.1 (cdIs m.2.1) k) σ := by
  rw [e_Rh_wasFound, s_wasLooked qs v h60 hk, pCI]
  unfold cdU cdIs
  by_cases h1 : cdLk m.1 m.2.1 k
  · rw [@if_pos _ (cdLkD _ _ _) h1, @if_pos _ (cdLkD _ _ _) h1, if_neg (show ¬ (1 : Int32) = 0 by decide), s_getN (x := 15) (c := 15) qs h60 hk (by decide) rfl, pCI, pOI]
  · rw [@if_neg _ (cdLkD _ _ _) h1, @if_neg _ (cdLkD _ _ _) h1, if_pos rfl]
theorem s_coldC01 (ho : okAll m) (qs : cSh σ 13 m.2.1) (v : cSv σ m.1 m.2.1) {x : Int32} : Lq G (d + 4) M_301 (56, [some (.ref 0), some (.int x), some (.int 0), some (.int 0)], [], σ) = oI (if x = 0 then pS (cdU m.1 m.2.1 fun _ => 1) m.2.1.1 else pS (cdU m.1 m.2.1 (cdIs m.2.1)) m.2.1.1) σ := by
  have h60 := ho.2.1.1
  have e := pLoop0 (G := G) (d := d + 4) (M := M_301) (fun i (a : Int32) => (56, [some (.ref 0), some (.int x), some (.int a), some (.int (Int32.ofNat i))], [], σ)) (fun k a => a + (if x = 0 then cdU m.1 m.2.1 (fun _ => 1) k else cdU m.1 m.2.1 (cdIs m.2.1) k)) m.2.1.1 0 (by
    intro i a hi
    show Lq G (d + 4) M_301 (56, [some (.ref 0), some (.int x), some (.int a), some (.int (Int32.ofNat i))], [], σ) = Lq G (d + 4) M_301 (56, [some (.ref 0), some (.int x), some (.int (a + (if x = 0 then cdU m.1 m.2.1 (fun _ => 1) i else cdU m.1 m.2.1 (cdIs m.2.1) i))), some (.int (Int32.ofNat (i + 1)))], [], σ)
    rw [c_Rh_cold_56, qs.1, if_neg (pGo hi (by omega)), s_wasLooked qs v h60 hi, pCI, s_wasFound qs v h60 hi, pCI, pN_s]
    by_cases h1 : cdLk m.1 m.2.1 i
    · rw [@if_pos _ (cdLkD _ _ _) h1, if_neg (show ¬ (1 : Int32) = 0 by decide), show cdU m.1 m.2.1 (fun _ => 1) i = 1 from @if_pos _ (cdLkD _ _ _) h1 _ _ _]
      by_cases h0 : x = 0
      · rw [if_pos h0, if_pos h0]
      · rw [if_neg h0, if_neg h0, show cdU m.1 m.2.1 (cdIs m.2.1) i = cdIs m.2.1 i from @if_pos _ (cdLkD _ _ _) h1 _ _ _]
        rcases cdIs_01 m.2.1 i with e | e
        · rw [e, if_pos rfl, Int32.add_zero]
        · rw [e, if_neg (show ¬ (1 : Int32) = 0 by decide)]
    · rw [@if_neg _ (cdLkD _ _ _) h1, if_pos rfl, show cdU m.1 m.2.1 (fun _ => 1) i = 0 from @if_neg _ (cdLkD _ _ _) h1 _ _ _, show cdU m.1 m.2.1 (cdIs m.2.1) i = 0 from @if_neg _ (cdLkD _ _ _) h1 _ _ _, ite_self, Int32.add_zero])
  rw [pFo_sum0, Int32.zero_add] at e
  refine Eq.trans e ?_
  show Lq G (d + 4) M_301 (56, [some (.ref 0), some (.int x), some (.int (pS (fun k => if x = 0 then cdU m.1 m.2.1 (fun _ => 1) k else cdU m.1 m.2.1 (cdIs m.2.1) k) m.2.1.1)), some (.int (Int32.ofNat m.2.1.1))], [], σ) = _
  rw [c_Rh_cold_56, qs.1, if_pos pEnd]
  by_cases h0 : x = 0
  · rw [if_pos h0, pS_congr (g := cdU m.1 m.2.1 fun _ => 1) m.2.1.1 (fun k _ => if_pos h0)]
  · rw [if_neg h0, pS_congr (g := cdU m.1 m.2.1 (cdIs m.2.1)) m.2.1.1 (fun k _ => if_neg h0)]
theorem s_lookedSheet_loop (ho : okAll m) (qs : cSh σ 13 m.2.1) (v : cSv σ m.1 m.2.1) {p : Nat} : ∀ (k i : Nat), i + k = m.2.1.1 → Lq G (d + 3) M_303 (2, [some (.ref 0), some (.int (Int32.ofNat p)), none, some (.int (Int32.ofNat i))], [], σ) = oI (Int32.ofNat (pNx (cdB m.1 m.2.1 p) k i)) σ
  | 0, i, hi => by
    have hi : i = m.2.1.1 := hi
    have h60 := ho.2.1.1
    rw [c_Rh_lookedSheet_2, qs.1, hi, if_pos pEnd]
    rfl
  | k + 1, i, hi => by
    have h60 := ho.2.1.1
    have e2 : pNx (cdB m.1 m.2.1 p) (k + 1) i = if cdB m.1 m.2.1 p i = true then i else pNx (cdB m.1 m.2.1 p) k (i + 1) := rfl
    rw [c_Rh_lookedSheet_2, qs.1, if_neg (pGo (show i < m.2.1.1 by omega) (by omega)), s_wasLooked qs v h60 (show i < m.2.1.1 by omega), pCI, pN_s, e2, s_lookedSheet_loop ho qs v k (i + 1) (by omega)]
    by_cases h1 : cdLk m.1 m.2.1 i
    · rw [@if_pos _ (cdLkD _ _ _) h1, if_neg (show ¬ (1 : Int32) = 0 by decide), s_getN (x := 16) (c := 16) qs h60 (show i < m.2.1.1 by omega) (by decide) rfl, pCI]
      by_cases h2 : m.2.1.2 i 16 = Int32.ofNat p
      · rw [if_pos h2, if_pos (cdB_iff.mpr ⟨h1, h2⟩)]
      · rw [if_neg h2, if_neg (fun h => h2 (cdB_iff.mp h).2)]
        exact s_lookedSheet_loop ho qs v k (i + 1) (by omega)
    · rw [@if_neg _ (cdLkD _ _ _) h1, if_pos rfl, if_neg (fun h => h1 (cdB_iff.mp h).1)]
theorem s_lookedSheet (ho : okAll m) (qs : cSh σ 13 m.2.1) (v : cSv σ m.1 m.2.1) {p i : Nat} (hi : i ≤ 61) : Rn G (d + 4) 303 [.ref 0, .int (Int32.ofNat p), .int (Int32.ofNat i)] σ = oI (Int32.ofNat (pNx (cdB m.1 m.2.1 p) (m.2.1.1 - i) i)) σ := by
  have h60 := ho.2.1.1
  rw [e_Rh_lookedSheet]
  by_cases h : i ≤ m.2.1.1
  · exact s_lookedSheet_loop ho qs v (m.2.1.1 - i) i (by omega)
  · rw [c_Rh_lookedSheet_2, qs.1, if_pos ((pN_le (by omega) (by omega)).mpr (by omega)), show m.2.1.1 - i = 0 by omega]
    rfl
theorem s_again (q : cHo σ m.1) (ho : okAll m) (qs : cSh σ 13 m.2.1) (v : cSv σ m.1 m.2.1) {x : Int32} : Rn G (d + 6) 302 [.ref 0, .int x] σ = oI (pS (fun p => if x = 0 then cdC m.1 m.2.1 p else cdD m.1 m.2.1 p) (hn m.1 0)) σ := by
  have h60 := ho.2.1.1
  have h20 := ho.1.1.1
  have e := pLoop0 (G := G) (d := d + 5) (M := M_302) (fun p (a : Int32) => (14, [some (.ref 0), some (.int x), some (.int a), some (.int (Int32.ofNat (hn m.1 0))), some (.int (Int32.ofNat p)), none, none], [], σ)) (fun p a => a + (if x = 0 then cdC m.1 m.2.1 p else cdD m.1 m.2.1 p)) (hn m.1 0) 0 (by
    intro p a hp
    have l1 : cdN1 m.1 m.2.1 p ≤ 60 := pNx_le m.2.1.1 0 (by omega)
    have r1 : Rn G (d + 5) 303 [.ref 0, .int (Int32.ofNat p), .int 0] σ = oI (Int32.ofNat (cdN1 m.1 m.2.1 p)) σ := s_lookedSheet (d := d + 1) ho qs v (p := p) (i := 0) (by decide)
    have r2 : Rn G (d + 5) 303 [.ref 0, .int (Int32.ofNat p), .int (Int32.ofNat (cdN1 m.1 m.2.1 p + 1))] σ = oI (Int32.ofNat (cdN2 m.1 m.2.1 p)) σ := s_lookedSheet (d := d + 1) ho qs v (p := p) (i := cdN1 m.1 m.2.1 p + 1) (by omega)
    show Lq G (d + 5) M_302 (14, [some (.ref 0), some (.int x), some (.int a), some (.int (Int32.ofNat (hn m.1 0))), some (.int (Int32.ofNat p)), none, none], [], σ) = Lq G (d + 5) M_302 (14, [some (.ref 0), some (.int x), some (.int (a + (if x = 0 then cdC m.1 m.2.1 p else cdD m.1 m.2.1 p))), some (.int (Int32.ofNat (hn m.1 0))), some (.int (Int32.ofNat (p + 1))), none, none], [], σ)
    rw [c_Rh_peopleAgain_14, if_neg (pGo hp (by omega)), r1, pCI, pN_s (cdN1 m.1 m.2.1 p), r2, pCI, pN_s p]
    unfold cdC cdD
    by_cases h1 : 60 ≤ cdN1 m.1 m.2.1 p
    · rw [if_pos (show (60 : Int32) ≤ Int32.ofNat (cdN1 m.1 m.2.1 p) from (pN_le (a := 60) (by decide) (by omega)).mpr h1), if_pos h1, if_pos h1, ite_self, Int32.add_zero]
    · obtain ⟨b1, m1⟩ : cdB m.1 m.2.1 p (cdN1 m.1 m.2.1 p) = true ∧ cdN1 m.1 m.2.1 p < 0 + m.2.1.1 := pNx_lt m.2.1.1 0 (show cdN1 m.1 m.2.1 p < 60 by omega) (by omega)
      have l2 : cdN2 m.1 m.2.1 p ≤ 60 := pNx_le (m.2.1.1 - (cdN1 m.1 m.2.1 p + 1)) (cdN1 m.1 m.2.1 p + 1) (by omega)
      rw [if_neg (fun h : (60 : Int32) ≤ Int32.ofNat (cdN1 m.1 m.2.1 p) => h1 ((pN_le (a := 60) (by decide) (by omega)).mp h)), if_neg h1, if_neg h1]
      by_cases h2 : 60 ≤ cdN2 m.1 m.2.1 p
      · rw [if_pos (show (60 : Int32) ≤ Int32.ofNat (cdN2 m.1 m.2.1 p) from (pN_le (a := 60) (by decide) (by omega)).mpr h2), if_pos h2, if_pos h2, ite_self, Int32.add_zero]
      · obtain ⟨b2, m2⟩ : cdB m.1 m.2.1 p (cdN2 m.1 m.2.1 p) = true ∧ cdN2 m.1 m.2.1 p < (cdN1 m.1 m.2.1 p + 1) + (m.2.1.1 - (cdN1 m.1 m.2.1 p + 1)) := pNx_lt (m.2.1.1 - (cdN1 m.1 m.2.1 p + 1)) (cdN1 m.1 m.2.1 p + 1) (show cdN2 m.1 m.2.1 p < 60 by omega) (by omega)
        have u1 : cdU m.1 m.2.1 (cdIs m.2.1) (cdN1 m.1 m.2.1 p) = cdIs m.2.1 (cdN1 m.1 m.2.1 p) := @if_pos _ (cdLkD _ _ _) (cdB_iff.mp b1).1 _ _ _
        have u2 : cdU m.1 m.2.1 (cdIs m.2.1) (cdN2 m.1 m.2.1 p) = cdIs m.2.1 (cdN2 m.1 m.2.1 p) := @if_pos _ (cdLkD _ _ _) (cdB_iff.mp b2).1 _ _ _
        rw [if_neg (fun h : (60 : Int32) ≤ Int32.ofNat (cdN2 m.1 m.2.1 p) => h2 ((pN_le (a := 60) (by decide) (by omega)).mp h)), if_neg h2, if_neg h2, s_wasFound qs v h60 (show cdN1 m.1 m.2.1 p < m.2.1.1 by omega), pCI, u1]
        by_cases h3 : cdIs m.2.1 (cdN1 m.1 m.2.1 p) = 0
        · rw [if_pos h3, if_pos h3, if_pos h3, ite_self, Int32.add_zero]
        · rw [if_neg h3, if_neg h3, if_neg h3]
          by_cases h4 : x = 0
          · rw [if_pos h4, if_pos h4]
          · rw [if_neg h4, if_neg h4, s_wasFound qs v h60 (show cdN2 m.1 m.2.1 p < m.2.1.1 by omega), pCI, u2]
            rcases cdIs_01 m.2.1 (cdN2 m.1 m.2.1 p) with e | e
            · rw [e, if_pos rfl, Int32.add_zero]
            · rw [e, if_neg (show ¬ (1 : Int32) = 0 by decide)])
  rw [pFo_sum0, Int32.zero_add] at e
  rw [e_Rh_peopleAgain, s_howMany (x := 0) (k := 0) rfl (by decide), pCI, q.1 0 (by decide)]
  refine Eq.trans e ?_
  show Lq G (d + 5) M_302 (14, [some (.ref 0), some (.int x), some (.int (pS (fun p => if x = 0 then cdC m.1 m.2.1 p else cdD m.1 m.2.1 p) (hn m.1 0))), some (.int (Int32.ofNat (hn m.1 0))), some (.int (Int32.ofNat (hn m.1 0))), none, none], [], σ) = _
  rw [c_Rh_peopleAgain_14, if_pos pEnd]
theorem a_cold (ho : okAll m) (x : Int32) : Ask G 301 306 [.int x] [(0, 1)] m := by
  have hk := ho.1
  obtain ⟨e0, e1⟩ := cdAll_12 hk ho.2.1
  obtain ⟨e2, e3⟩ := cdAll_34 (m := m) ho.2.1
  rcases rngI (x := x) (n := 4) (by decide) with ⟨w, hw, ex⟩ | hx
  · have n0 : ¬ x < 0 := by rw [ex]; exact pN_n0 (by omega)
    have n3 : ¬ 3 < x := by rw [ex]; exact pLB (c := 3) (b := 3) rfl (by omega) (by decide)
    refine Or.inl ⟨if x = 0 then (cdAll m.1 m.2.1).1 else if x = 1 then (cdAll m.1 m.2.1).2.1 else if x = 2 then (cdAll m.1 m.2.1).2.2.1 else (cdAll m.1 m.2.1).2.2.2, fun σ I => ?_, fun σ I => ?_⟩
    · obtain ⟨σ1, r1, f1, v1⟩ := s_siftI (G := G) (d := 52) I
      obtain ⟨_, ⟨q, qs, _⟩, _⟩ := I
      have q1 := q.ps f1 (by decide) (by decide) (by decide)
      have qs1 := qs.ps f1 (by decide) (by decide)
      refine cOkS (σ' := σ1) ?_ f1 (by decide)
      rw [e_Rh_cold, if_neg n0, if_neg n3, s_demand1, pXV, r1, pCV]
      rcases (show w = 0 ∨ w = 1 ∨ w = 2 ∨ w = 3 by omega) with rfl | rfl | rfl | rfl
      · rw [ex, if_pos (show Int32.ofNat 0 < 2 by decide), s_coldC01 (d := 55) ho qs1 v1, if_pos (show Int32.ofNat 0 = 0 from rfl), if_pos (show Int32.ofNat 0 = 0 from rfl), e0]
      · rw [ex, if_pos (show Int32.ofNat 1 < 2 by decide), s_coldC01 (d := 55) ho qs1 v1, if_neg (show ¬ Int32.ofNat 1 = 0 by decide), if_neg (show ¬ Int32.ofNat 1 = 0 by decide), if_pos (show Int32.ofNat 1 = 1 from rfl), e1]
      · rw [ex, if_neg (show ¬ Int32.ofNat 2 < 2 by decide), if_neg (show ¬ Int32.ofNat 2 = 3 by decide), s_again (d := 53) q1 ho qs1 v1, pCI, if_neg (show ¬ Int32.ofNat 2 = 0 by decide), if_neg (show ¬ Int32.ofNat 2 = 1 by decide), if_pos (show Int32.ofNat 2 = 2 from rfl), e2]
        rw [pS_congr (g := cdC m.1 m.2.1) (hn m.1 0) (fun p _ => if_pos rfl)]
      · rw [ex, if_neg (show ¬ Int32.ofNat 3 < 2 by decide), if_pos (show Int32.ofNat 3 = 3 from rfl), s_again (d := 53) q1 ho qs1 v1, pCI, if_neg (show ¬ Int32.ofNat 3 = 0 by decide), if_neg (show ¬ Int32.ofNat 3 = 1 by decide), if_neg (show ¬ Int32.ofNat 3 = 2 by decide), e3]
        rw [pS_congr (g := cdD m.1 m.2.1) (hn m.1 0) (fun p _ => if_neg (by decide))]
    · obtain ⟨σ1, r1, f1, g1, v1⟩ := s_gatherI (G := G) (d := 54) I
      refine rOkS (σ' := σ1) ?_ f1 g1
      rw [e_Md_cold, s_within, pCI, if_pos ⟨pNotLt.mp n0, pNotLt.mp n3⟩, s_r1, pCI, if_neg (by decide), r1, pCV]
      exact s_coldM (I.2.2.1.rs f1) ho (I.2.2.2.1.1.rs f1) v1
  · refine Or.inr ⟨(0, 1), by decide, fun σ I => cExI ?_, fun σ I => rExI (v := 0) ?_⟩
    · rw [e_Rh_cold, s_demand0, pXVt]
      by_cases h0 : x < 0
      · rw [if_pos h0]
      · rw [if_neg h0, if_pos (pBad (c := 3) (b := 3) rfl (by decide) (hx.resolve_left h0))]
    · rw [e_Md_cold, s_within, pCI, if_neg (pOut (c := 3) (b := 3) rfl (by decide) hx), s_r0 (by decide), pCI, if_pos rfl]
end PCold
