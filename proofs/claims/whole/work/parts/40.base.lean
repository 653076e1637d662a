/-! ===== THE PURE PART: numbers, indexes, what a heap holds ===== -/
theorem pN_int {n : Nat} (h : n < 2147483648) : (Int32.ofNat n).toInt = (n : Int) := Int32.toInt_ofNat_of_lt h
theorem pN_cl {n : Nat} (h : n < 2147483648) : (Int32.ofNat n).toNatClampNeg = n := Int32.toNatClampNeg_ofNat_of_lt h
theorem pN_le {a b : Nat} (ha : a < 2147483648) (hb : b < 2147483648) : Int32.ofNat a ≤ Int32.ofNat b ↔ a ≤ b := (Int32.ofNat_le_iff_le ha hb)
theorem pN_lt {a b : Nat} (ha : a < 2147483648) (hb : b < 2147483648) : Int32.ofNat a < Int32.ofNat b ↔ a < b := (Int32.ofNat_lt_iff_lt ha hb)
theorem pN_eq {a b : Nat} (ha : a < 2147483648) (hb : b < 2147483648) : Int32.ofNat a = Int32.ofNat b ↔ a = b := by
  constructor
  · intro h
    have h1 := congrArg Int32.toNatClampNeg h
    rw [pN_cl ha, pN_cl hb] at h1
    exact h1
  · intro h
    rw [h]
theorem pN_n0 {a : Nat} (ha : a < 2147483648) : ¬ (Int32.ofNat a < 0) := by
  have h := pN_lt ha (b := 0) (by decide)
  intro h1
  exact absurd (h.mp h1) (by omega)
theorem pN_0 {a : Nat} (ha : a < 2147483648) : (0 : Int32) ≤ Int32.ofNat a := (pN_le (a := 0) (by decide) ha).mpr (Nat.zero_le _)
theorem pN_s (n : Nat) : Int32.ofNat n + 1 = Int32.ofNat (n + 1) := (Int32.ofNat_add n 1).symm
/-- an index that is there -/
theorem pIx {ρ : Type} {i n : Nat} (h : i < n) (hn : n < 2147483648) (f : Nat → Option ρ) : aIx (Int32.ofNat i) n f = f i := by
  unfold aIx
  rw [pN_cl (by omega), if_neg]
  intro h1
  rcases h1 with h1 | h1
  · exact pN_n0 (by omega) h1
  · omega
/-- one that is not -/
theorem pIxO {ρ : Type} {i n : Nat} (h : n ≤ i) (hi : i < 2147483648) (f : Nat → Option ρ) : aIx (Int32.ofNat i) n f = none := by
  unfold aIx
  rw [pN_cl hi, if_pos (Or.inr h)]
/-- any number that isn't below 0 -/
theorem pN_ex {x : Int32} (h : 0 ≤ x) : ∃ n : Nat, n < 2147483648 ∧ x = Int32.ofNat n := ⟨x.toNatClampNeg, Int32.toNatClampNeg_lt x, (Int32.ofNat_toNatClampNeg x h).symm⟩
theorem pN_ex2 {x : Int32} {b : Nat} (hb : b < 2147483648) (h : 0 ≤ x) (h2 : x < Int32.ofNat b) : ∃ n : Nat, n < b ∧ x = Int32.ofNat n := by
  obtain ⟨n, h3, rfl⟩ := pN_ex h
  exact ⟨n, (pN_lt h3 hb).mp h2, rfl⟩
theorem pLt {x y : Int32} : x < y ↔ x.toInt < y.toInt := Int32.lt_iff_toInt_lt
theorem pLe {x y : Int32} : x ≤ y ↔ x.toInt ≤ y.toInt := Int32.le_iff_toInt_le
theorem pNotLt {x y : Int32} : ¬ x < y ↔ y ≤ x := by rw [pLt, pLe]; omega
theorem pNotLe {x y : Int32} : ¬ x ≤ y ↔ y < x := by rw [pLt, pLe]; omega
/-! writes and reads -/
theorem pSI_ne {σ : aH} {a j o : Nat} {x : Int32} (h : o ≠ a) : (aSI σ a j x).1 o = σ.1 o := by
  show (match Nat.beq o a with
    | true => upd (σ.1 o) j x
    | false => σ.1 o) = _
  rw [show Nat.beq o a = false from Bool.eq_false_iff.mpr fun h1 => h (Nat.eq_of_beq_eq_true h1)]
theorem pSI_eq {σ : aH} {a j : Nat} {x : Int32} : (aSI σ a j x).1 a = upd (σ.1 a) j x := by
  show (match Nat.beq a a with
    | true => upd (σ.1 a) j x
    | false => σ.1 a) = _
  rw [show Nat.beq a a = true from Nat.beq_refl a]
theorem pSI_at {σ : aH} {a j : Nat} {x : Int32} : (aSI σ a j x).1 a j = x := by rw [pSI_eq]; simp [upd]
theorem pSI_of {σ : aH} {a j k : Nat} {x : Int32} (h : k ≠ j) : (aSI σ a j x).1 a k = σ.1 a k := by rw [pSI_eq]; simp [upd, h]
theorem pSI_2 {σ : aH} {a j : Nat} {x : Int32} : (aSI σ a j x).2 = σ.2 := rfl
theorem pSL_1 {σ : aH} {a j : Nat} {x : Int64} : (aSL σ a j x).1 = σ.1 := rfl
theorem pSL_ne {σ : aH} {a j o : Nat} {x : Int64} (h : o ≠ a) : (aSL σ a j x).2 o = σ.2 o := by
  show (match Nat.beq o a with
    | true => vp_updL (σ.2 o) j x
    | false => σ.2 o) = _
  rw [show Nat.beq o a = false from Bool.eq_false_iff.mpr fun h1 => h (Nat.eq_of_beq_eq_true h1)]
/-- all but the objects of a list is as it was -/
def pSame (os : List Nat) (σ σ' : aH) : Prop := ∀ o, o ∉ os → σ'.1 o = σ.1 o ∧ σ'.2 o = σ.2 o
theorem pSame.rfl' {os : List Nat} {σ : aH} : pSame os σ σ := fun _ _ => ⟨rfl, rfl⟩
theorem pSame.trans {os : List Nat} {σ σ' σ'' : aH} (h : pSame os σ σ') (h2 : pSame os σ' σ'') : pSame os σ σ'' := fun o ho => ⟨(h2 o ho).1.trans (h o ho).1, (h2 o ho).2.trans (h o ho).2⟩
theorem pSame.mono {os os' : List Nat} {σ σ' : aH} (h : pSame os σ σ') (hs : ∀ o ∈ os, o ∈ os') : pSame os' σ σ' := fun o ho => h o fun h1 => ho (hs o h1)
theorem pSame.si {os : List Nat} {σ σ' : aH} (h : pSame os σ σ') {a j : Nat} {x : Int32} (ha : a ∈ os) : pSame os σ (aSI σ' a j x) := fun o ho => ⟨(pSI_ne (fun e => ho (by rw [e]; exact ha))).trans (h o ho).1, (h o ho).2⟩
theorem pSame.sl {os : List Nat} {σ σ' : aH} (h : pSame os σ σ') {a j : Nat} {x : Int64} (ha : a ∈ os) : pSame os σ (aSL σ' a j x) := fun o ho => ⟨(h o ho).1, (pSL_ne (fun e => ho (by rw [e]; exact ha))).trans (h o ho).2⟩
/-! what a run gives -/
abbrev oI (v : Int32) (σ : aH) : Option (aRs × aH) := some (.inl (some (.int v)), σ)
abbrev oL (v : Int64) (σ : aH) : Option (aRs × aH) := some (.inl (some (.long v)), σ)
abbrev oV (σ : aH) : Option (aRs × aH) := some (.inl none, σ)
abbrev oX (k : Nat) (σ : aH) : Option (aRs × aH) := some (.inr k, σ)
/-! what a call gave -/
section PCalls
variable {ρ : Type} {σ : aH}
theorem pCI {v : Int32} {k : Int32 → aH → Option ρ} : aCI (some (.inl (some (.int v)), σ)) k = k v σ := rfl
theorem pCV {k : aH → Option ρ} : aCV (some (.inl none, σ)) k = k σ := rfl
theorem pCL {v : Int64} {k : Int64 → aH → Option ρ} : aCL (some (.inl (some (.long v)), σ)) k = k v σ := rfl
theorem pXV {k : aH → Option ρ} {g : Nat → aH → Option ρ} : aXV (some (.inl none, σ)) k g = k σ := rfl
theorem pXVt {k : aH → Option ρ} {g : Nat → aH → Option ρ} {e : Nat} : aXV (some (.inr e, σ)) k g = g e σ := rfl
theorem pXI {v : Int32} {k : Int32 → aH → Option ρ} {g : Nat → aH → Option ρ} : aXI (some (.inl (some (.int v)), σ)) k g = k v σ := rfl
theorem pXIt {k : Int32 → aH → Option ρ} {g : Nat → aH → Option ρ} {e : Nat} : aXI (some (.inr e, σ)) k g = g e σ := rfl
end PCalls
/-! what comes of a run: an int, nothing, an exception -/
def pInt (r : Option (aRs × aH)) (v : Int32) (σ : aH) : Prop := r = some (.inl (some (.int v)), σ)
/-! ===== loops ===== -/
/-- f n-1 ( .. (f i a)), k of them -/
def pFo {α : Type} (f : Nat → α → α) : Nat → Nat → α → α
  | 0, _, a => a
  | k + 1, i, a => pFo f k (i + 1) (f i a)
theorem pFo_snoc {α : Type} (f : Nat → α → α) : ∀ (k i : Nat) (a : α), pFo f (k + 1) i a = f (i + k) (pFo f k i a)
  | 0, i, a => rfl
  | k + 1, i, a => by
    show pFo f (k + 1) (i + 1) (f i a) = f (i + (k + 1)) (pFo f k (i + 1) (f i a))
    rw [pFo_snoc f k (i + 1) (f i a), show i + 1 + k = i + (k + 1) by omega]
theorem pFo_congr {α : Type} {f g : Nat → α → α} : ∀ (k i : Nat) (a : α), (∀ j a, i ≤ j → j < i + k → f j a = g j a) → pFo f k i a = pFo g k i a
  | 0, _, _, _ => rfl
  | k + 1, i, a, h => by
    show pFo f k (i + 1) (f i a) = pFo g k (i + 1) (g i a)
    rw [h i a (Nat.le_refl _) (by omega)]
    exact pFo_congr k (i + 1) _ fun j a h1 h2 => h j a (by omega) (by omega)
/-- an invariant of a fold -/
theorem pFo_inv {α : Type} {f : Nat → α → α} (R : Nat → α → Prop) : ∀ (k i : Nat) (a : α), R i a → (∀ j a, i ≤ j → j < i + k → R j a → R (j + 1) (f j a)) → R (i + k) (pFo f k i a)
  | 0, _, _, h, _ => h
  | k + 1, i, a, h, hs => by
    show R (i + (k + 1)) (pFo f k (i + 1) (f i a))
    rw [show i + (k + 1) = i + 1 + k by omega]
    exact pFo_inv R k (i + 1) _ (hs i a (Nat.le_refl _) (by omega) h) fun j a h1 h2 => hs j a (by omega) (by omega)
section PLoop
variable {G : Nat × (Nat → Int32)} {d : Nat} {M : aMt} {α : Type}
/-- a loop that only turns its locals -/
theorem pLoop (T : Nat → α → aSt) (f : Nat → α → α) (n : Nat) (hs : ∀ i a, i < n → Lq G d M (T i a) = Lq G d M (T (i + 1) (f i a))) : ∀ (k i : Nat) (a : α), i + k = n → Lq G d M (T i a) = Lq G d M (T n (pFo f k i a))
  | 0, i, a, h => by
    have e : i = n := h
    rw [e]; rfl
  | k + 1, i, a, h => by
    rw [hs i a (by omega)]
    exact pLoop T f n hs k (i + 1) _ (by omega)
theorem pLoop0 (T : Nat → α → aSt) (f : Nat → α → α) (n : Nat) (a : α) (hs : ∀ i a, i < n → Lq G d M (T i a) = Lq G d M (T (i + 1) (f i a))) : Lq G d M (T 0 a) = Lq G d M (T n (pFo f n 0 a)) := pLoop T f n hs n 0 a (Nat.zero_add n)
/-- a loop with an invariant -/
theorem pLoopR (T : Nat → α → aSt) (R : Nat → α → Prop) (n : Nat) (hs : ∀ i a, i < n → R i a → ∃ b, R (i + 1) b ∧ Lq G d M (T i a) = Lq G d M (T (i + 1) b)) : ∀ (k i : Nat) (a : α), i + k = n → R i a → ∃ b, R n b ∧ Lq G d M (T i a) = Lq G d M (T n b)
  | 0, i, a, h, hr => by
    have e : i = n := h
    subst e
    exact ⟨a, hr, rfl⟩
  | k + 1, i, a, h, hr => by
    obtain ⟨b, hb, e⟩ := hs i a (by omega) hr
    obtain ⟨c, hc, e2⟩ := pLoopR T R n hs k (i + 1) b (by omega) hb
    exact ⟨c, hc, e.trans e2⟩
theorem pLoopR0 (T : Nat → α → aSt) (R : Nat → α → Prop) (n : Nat) (a : α) (h0 : R 0 a) (hs : ∀ i a, i < n → R i a → ∃ b, R (i + 1) b ∧ Lq G d M (T i a) = Lq G d M (T (i + 1) b)) : ∃ b, R n b ∧ Lq G d M (T 0 a) = Lq G d M (T n b) := pLoopR T R n hs n 0 a (Nat.zero_add n) h0
/-- a loop that may end at once -/
theorem pLoopX {Q : Option (aRs × aH) → Prop} (T : Nat → α → aSt) (R : Nat → α → Prop) (n : Nat) (hs : ∀ i a, i < n → R i a → Q (Lq G d M (T i a)) ∨ ∃ b, R (i + 1) b ∧ Lq G d M (T i a) = Lq G d M (T (i + 1) b)) (he : ∀ a, R n a → Q (Lq G d M (T n a))) : ∀ (k i : Nat) (a : α), i + k = n → R i a → Q (Lq G d M (T i a))
  | 0, i, a, h, hr => by
    have e : i = n := h
    subst e
    exact he a hr
  | k + 1, i, a, h, hr => by
    rcases hs i a (by omega) hr with h1 | ⟨b, hb, e⟩
    · exact h1
    · rw [e]
      exact pLoopX T R n hs he k (i + 1) b (by omega) hb
end PLoop
theorem pGo {n i : Nat} (h : i < n) (hn : n < 2147483648) : ¬ (Int32.ofNat n ≤ Int32.ofNat i) := fun h1 => absurd ((pN_le hn (by omega)).mp h1) (by omega)
theorem pEnd {n : Nat} : Int32.ofNat n ≤ Int32.ofNat n := Int32.le_refl _
theorem pGo' {n i : Nat} (h : i < n) (hn : n < 2147483648) : Int32.ofNat i < Int32.ofNat n := (pN_lt (by omega) hn).mpr h
theorem pEnd' {n : Nat} : ¬ Int32.ofNat n < Int32.ofNat n := Int32.lt_irrefl
/-- the same, where the bound is a number -/
theorem pGoL {c : Int32} {n i : Nat} (hc : c = Int32.ofNat n) (h : i < n) (hn : n < 2147483648) : ¬ (c ≤ Int32.ofNat i) := by
  rw [hc]
  exact pGo h hn
theorem pEndL {c : Int32} {n : Nat} (hc : c = Int32.ofNat n) : c ≤ Int32.ofNat n := by
  rw [hc]
  exact pEnd
theorem pGoL' {c : Int32} {n i : Nat} (hc : c = Int32.ofNat n) (h : i < n) (hn : n < 2147483648) : Int32.ofNat i < c := by
  rw [hc]
  exact pGo' h hn
theorem pEqL {c : Int32} {n i : Nat} (hc : c = Int32.ofNat n) (hn : n < 2147483648) (hi : i < 2147483648) : Int32.ofNat i = c ↔ i = n := by
  rw [hc]
  exact pN_eq hi hn
/-- an index, put as a number -/
theorem pIxL {ρ : Type} {x : Int32} {i n : Nat} (hx : x = Int32.ofNat i) (h : i < n) (hn : n < 2147483648) (f : Nat → Option ρ) : aIx x n f = f i := by
  rw [hx]
  exact pIx h hn f
section PBool
variable {ρ : Type} {P : Prop} {σ : aH} {a b : ρ}
theorem pB0 {_ : Decidable P} : (if (if P then (1 : Int32) else 0) = 0 then a else b) = if P then b else a := by
  by_cases h : P
  · rw [if_pos h, if_pos h, if_neg (by decide)]
  · rw [if_neg h, if_neg h, if_pos rfl]
theorem pB1 {_ : Decidable P} : (if (if P then (1 : Int32) else 0) = 1 then a else b) = if P then a else b := by
  by_cases h : P
  · rw [if_pos h, if_pos h, if_pos rfl]
  · rw [if_neg h, if_neg h, if_neg (by decide)]
theorem pOI {_ : Decidable P} {x y : Int32} : (if P then oI x σ else oI y σ) = oI (if P then x else y) σ := by
  by_cases h : P
  · rw [if_pos h, if_pos h]
  · rw [if_neg h, if_neg h]
theorem pIffI {Q : Prop} {_ : Decidable P} {_ : Decidable Q} (h : P ↔ Q) {x y : Int32} : (if P then x else y) = if Q then x else y := by
  by_cases h1 : P
  · rw [if_pos h1, if_pos (h.mp h1)]
  · rw [if_neg h1, if_neg (fun h2 => h1 (h.mpr h2))]
end PBool
