/-! ===== what holds between calls; what a question leaves as it was ===== -/
def coreL : List Nat := [0, 1, 2, 4, 5, 6, 13, 14, 15, 16, 27, 34, 35, 36, 37, 38, 39, 40, 41, 52, 53, 54, 60, 61, 62]
/-- all that is kept from call to call is as it was -/
def K (σ σ' : aH) : Prop := (∀ o, o ∈ coreL → σ'.1 o = σ.1 o) ∧ ∀ k, k ∈ [1, 2, 3, 4, 5, 12, 15, 17, 54] → σ'.1 33 k = σ.1 33 k
theorem K.rfl' {σ : aH} : K σ σ := ⟨fun _ _ => rfl, fun _ _ => rfl⟩
theorem K.trans {σ σ' σ'' : aH} (h : K σ σ') (h2 : K σ' σ'') : K σ σ'' := ⟨fun o ho => (h2.1 o ho).trans (h.1 o ho), fun k hk => (h2.2 k hk).trans (h.2 k hk)⟩
theorem K.ps {os : List Nat} {σ σ' : aH} (f : pSame os σ σ') (h : ∀ o ∈ os, o ∉ 33 :: coreL) : K σ σ' := ⟨fun o ho => f.at fun h1 => h o h1 (List.mem_cons_of_mem _ ho), fun k _ => congrFun (f.at fun h1 => h 33 h1 (by decide)) k⟩
theorem K.rs {σ σ' : aH} (f : rS σ σ') : K σ σ' := by
  refine ⟨fun o ho => f.at fun h1 => ?_, fun k hk => f.2 k ?_ ?_ ?_⟩
  · exact absurd (List.mem_filter.mpr ⟨h1, decide_eq_true ho⟩ : o ∈ [33, 50, 51, 55, 56, 57, 58, 59].filter fun o => decide (o ∈ coreL)) (by decide +revert)
  · intro e
    subst e
    exact absurd hk (by decide)
  · intro e
    subst e
    exact absurd hk (by decide)
  · intro e
    subst e
    exact absurd hk (by decide)
theorem K.sl {σ σ' : aH} (h : K σ σ') {a j : Nat} {x : Int64} : K σ (aSL σ' a j x) := h
theorem K.si {σ σ' : aH} (h : K σ σ') {a j : Nat} {x : Int32} (ha : a ∉ 33 :: coreL) : K σ (aSI σ' a j x) := by
  refine ⟨fun o ho => (pSI_ne fun e => ha ?_).trans (h.1 o ho), fun k hk => (congrFun (pSI_ne fun e => ha ?_) k).trans (h.2 k hk)⟩
  · rw [← e]
    exact List.mem_cons_of_mem _ ho
  · rw [← e]
    exact List.mem_cons_self
theorem K.s33 {σ σ' : aH} (h : K σ σ') {j : Nat} {x : Int32} (hj : j ∉ [1, 2, 3, 4, 5, 12, 15, 17, 54]) : K σ (aSI σ' 33 j x) := by
  refine ⟨fun o ho => (pSI_ne fun e => ?_).trans (h.1 o ho), fun k hk => (pSI_of fun e => hj (by rw [← e]; exact hk)).trans (h.2 k hk)⟩
  subst e
  exact absurd ho (by decide)
/-- the images -/
def cIm (σ : aH) : Option Sh → Prop
  | none => σ.1 0 15 = 0
  | some i => σ.1 0 15 = 1 ∧ cSh σ 15 i
def rIm (σ : aH) : Option Sh → Prop
  | none => σ.1 33 54 = -1
  | some i => σ.1 33 54 = Int32.ofNat i.1 ∧ rSh σ 60 61 62 i
/-- all that is kept: a house, sheets, an image; how much tape, its bytes; where the fault was; how often it was refused -/
abbrev St : Type := Ho × Sh × Option Sh × Nat × (Nat → Int32) × Int32 × (Nat → Int32)
def cAll (σ : aH) (m : St) : Prop := cHo σ m.1 ∧ cSh σ 13 m.2.1 ∧ cIm σ m.2.2.1 ∧ σ.1 1 1 = Int32.ofNat m.2.2.2.1 ∧ (∀ i, i < m.2.2.2.1 → σ.1 2 i &&& 255 = m.2.2.2.2.1 i) ∧ σ.1 0 16 = m.2.2.2.2.2.1 ∧ ∀ k, k < 3 → σ.1 27 k = m.2.2.2.2.2.2 k
def rAll (σ : aH) (m : St) : Prop := rHo σ m.1 ∧ (rSh σ 40 53 54 m.2.1 ∧ σ.1 33 12 = Int32.ofNat m.2.1.1) ∧ rIm σ m.2.2.1 ∧ σ.1 33 15 = Int32.ofNat m.2.2.2.1 ∧ (∀ i, i < m.2.2.2.1 → σ.1 41 i = m.2.2.2.2.1 i) ∧ σ.1 33 17 = m.2.2.2.2.2.1 ∧ ∀ k, k < 3 → σ.1 52 k = m.2.2.2.2.2.2 k
def okAll (m : St) : Prop := Hok m.1 ∧ Sok m.1 m.2.1 ∧ (∀ i, m.2.2.1 = some i → Sok m.1 i) ∧ m.2.2.2.1 ≤ 700
def Iv (σ : aH) (m : St) : Prop := okAll m ∧ cAll σ m ∧ rAll σ m
theorem cAll.k {σ σ' : aH} {m : St} (q : cAll σ m) (f : K σ σ') : cAll σ' m := by
  obtain ⟨a, b, c, e⟩ := q
  have g := f.1
  refine ⟨a.same (g 4 (by decide)) (g 5 (by decide)) (g 6 (by decide)), b.same (g 13 (by decide)) (g 14 (by decide)), ?_, ?_⟩
  · cases hm : m.2.2.1 with
    | none =>
      rw [hm] at c
      exact (congrFun (g 0 (by decide)) 15).trans c
    | some i =>
      rw [hm] at c
      exact ⟨(congrFun (g 0 (by decide)) 15).trans c.1, c.2.same (g 15 (by decide)) (g 16 (by decide))⟩
  · rw [g 1 (by decide), g 2 (by decide), g 0 (by decide), g 27 (by decide)]
    exact e
theorem rAll.k {σ σ' : aH} {m : St} (q : rAll σ m) (f : K σ σ') : rAll σ' m := by
  obtain ⟨a, b, c, e⟩ := q
  have g := f.1
  have g3 := f.2
  refine ⟨a.same (fun k hk => ?_) (g 34 (by decide)) (g 35 (by decide)) (g 36 (by decide)) (g 37 (by decide)) (g 38 (by decide)) (g 39 (by decide)), ⟨b.1.same (g 40 (by decide)) (g 53 (by decide)) (g 54 (by decide)), (g3 12 (by decide)).trans b.2⟩, ?_, ?_⟩
  · rcases (show k = 0 ∨ k = 1 ∨ k = 2 ∨ k = 3 ∨ k = 4 by omega) with rfl | rfl | rfl | rfl | rfl
    · exact g3 1 (by decide)
    · exact g3 2 (by decide)
    · exact g3 3 (by decide)
    · exact g3 4 (by decide)
    · exact g3 5 (by decide)
  · cases hm : m.2.2.1 with
    | none =>
      rw [hm] at c
      exact (g3 54 (by decide)).trans c
    | some i =>
      rw [hm] at c
      exact ⟨(g3 54 (by decide)).trans c.1, c.2.same (g 60 (by decide)) (g 61 (by decide)) (g 62 (by decide))⟩
  · rw [g3 15 (by decide), g3 17 (by decide), g 41 (by decide), g 52 (by decide)]
    exact e
theorem Iv.k {σ σ' : aH} {m : St} (q : Iv σ m) (f : K σ σ') : Iv σ' m := ⟨q.1, q.2.1.k f, q.2.2.k f⟩
/-- a question of the class: answered, or refused -/
def cOk (G : Nat × (Nat → Int32)) (mid : Nat) (as : List Value) (σ : aH) (v : Int32) : Prop := ∃ σ', Rn G 60 mid as σ = oI v σ' ∧ K σ σ'
def cEx (G : Nat × (Nat → Int32)) (mid : Nat) (as : List Value) (σ : aH) (e : Nat) : Prop := ∃ σ', Rn G 60 mid as σ = oX e σ' ∧ K σ σ'
/-- one of the reference -/
def rOk (G : Nat × (Nat → Int32)) (mid : Nat) (as : List Value) (σ : aH) (v : Int32) : Prop := ∃ σ', Rn G 60 mid as σ = oI v σ' ∧ K σ σ' ∧ σ'.1 33 0 = 0 ∧ σ'.2 63 = σ.2 63
def rEx (G : Nat × (Nat → Int32)) (mid : Nat) (as : List Value) (σ : aH) (t : Int32) : Prop := ∃ v σ', Rn G 60 mid as σ = oI v σ' ∧ K σ σ' ∧ σ'.1 33 0 = t ∧ σ'.2 63 = σ.2 63
/-- class and reference answer a question alike, whatever the heap, so long as it holds what is kept; es: which exception is which number -/
def Ask (G : Nat × (Nat → Int32)) (c r : Nat) (as : List Value) (es : List (Nat × Int32)) (m : St) : Prop := (∃ v, (∀ σ, Iv σ m → cOk G c (.ref 0 :: as) σ v) ∧ ∀ σ, Iv σ m → rOk G r (.ref 33 :: as) σ v) ∨ ∃ q, q ∈ es ∧ (∀ σ, Iv σ m → cEx G c (.ref 0 :: as) σ q.1) ∧ ∀ σ, Iv σ m → rEx G r (.ref 33 :: as) σ q.2
/-- a call that may change what is kept: class first, then the reference -/
def AskS (G : Nat × (Nat → Int32)) (c r : Nat) (as : List Value) (es : List (Nat × Int32)) (m m' : St) : Prop := okAll m' ∧ ((∃ v, (∀ σ, cAll σ m → rAll σ m → ∃ σ', Rn G 60 c (.ref 0 :: as) σ = oI v σ' ∧ cAll σ' m' ∧ rAll σ' m) ∧ ∀ σ, cAll σ m' → rAll σ m → ∃ σ', Rn G 60 r (.ref 33 :: as) σ = oI v σ' ∧ cAll σ' m' ∧ rAll σ' m' ∧ σ'.1 33 0 = 0 ∧ σ'.2 63 = σ.2 63) ∨ ∃ q, q ∈ es ∧ (∀ σ, cAll σ m → rAll σ m → ∃ σ', Rn G 60 c (.ref 0 :: as) σ = oX q.1 σ' ∧ cAll σ' m' ∧ rAll σ' m) ∧ ∀ σ, cAll σ m' → rAll σ m → ∃ v σ', Rn G 60 r (.ref 33 :: as) σ = oI v σ' ∧ cAll σ' m' ∧ rAll σ' m' ∧ σ'.1 33 0 = q.2 ∧ σ'.2 63 = σ.2 63)
theorem Ask.toS {G : Nat × (Nat → Int32)} {c r : Nat} {as : List Value} {es : List (Nat × Int32)} {m : St} (ho : okAll m) (A : Ask G c r as es m) : AskS G c r as es m m := by
  refine ⟨ho, ?_⟩
  rcases A with ⟨v, h1, h2⟩ | ⟨q, hq, h1, h2⟩
  · refine Or.inl ⟨v, fun σ a b => ?_, fun σ a b => ?_⟩
    · obtain ⟨σ', r1, k⟩ := h1 σ ⟨ho, a, b⟩
      exact ⟨σ', r1, a.k k, b.k k⟩
    · obtain ⟨σ', r1, k, t, l⟩ := h2 σ ⟨ho, a, b⟩
      exact ⟨σ', r1, a.k k, b.k k, t, l⟩
  · refine Or.inr ⟨q, hq, fun σ a b => ?_, fun σ a b => ?_⟩
    · obtain ⟨σ', r1, k⟩ := h1 σ ⟨ho, a, b⟩
      exact ⟨σ', r1, a.k k, b.k k⟩
    · obtain ⟨v, σ', r1, k, t, l⟩ := h2 σ ⟨ho, a, b⟩
      exact ⟨v, σ', r1, a.k k, b.k k, t, l⟩
