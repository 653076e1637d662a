/-! ===== the abstract machine's world in the heap; what each helper's result tells ===== -/
theorem aLdR_some {ρ : Type} {o : ρ} {L : List (Option Value)} {i : Nat} {f : Nat → Option ρ} (h : aLdR L i f = some o) : ∃ x, L[i]? = some (some (.ref x)) ∧ f x = some o := by
  unfold aLdR at h; split at h
  · rename_i x hx; exact ⟨x, hx, h⟩
  · cases h
theorem aLdI_some {ρ : Type} {o : ρ} {L : List (Option Value)} {i : Nat} {f : Int32 → Option ρ} (h : aLdI L i f = some o) : ∃ x, L[i]? = some (some (.int x)) ∧ f x = some o := by
  unfold aLdI at h; split at h
  · rename_i x hx; exact ⟨x, hx, h⟩
  · cases h
theorem aLdL_some {ρ : Type} {o : ρ} {L : List (Option Value)} {i : Nat} {f : Int64 → Option ρ} (h : aLdL L i f = some o) : ∃ x, L[i]? = some (some (.long x)) ∧ f x = some o := by
  unfold aLdL at h; split at h
  · rename_i x hx; exact ⟨x, hx, h⟩
  · cases h
theorem aPI_some {ρ : Type} {o : ρ} {S : List Value} {f : Int32 → List Value → Option ρ} (h : aPI S f = some o) : ∃ x S', S = .int x :: S' ∧ f x S' = some o := by
  unfold aPI at h; split at h
  · exact ⟨_, _, rfl, h⟩
  · cases h
theorem aPL_some {ρ : Type} {o : ρ} {S : List Value} {f : Int64 → List Value → Option ρ} (h : aPL S f = some o) : ∃ x S', S = .long x :: S' ∧ f x S' = some o := by
  unfold aPL at h; split at h
  · exact ⟨_, _, rfl, h⟩
  · cases h
theorem aPR_some {ρ : Type} {o : ρ} {S : List Value} {f : Nat → List Value → Option ρ} (h : aPR S f = some o) : ∃ x S', S = .ref x :: S' ∧ f x S' = some o := by
  unfold aPR at h; split at h
  · exact ⟨_, _, rfl, h⟩
  · cases h
theorem aPV_some {ρ : Type} {o : ρ} {S : List Value} {f : Value → List Value → Option ρ} (h : aPV S f = some o) : ∃ x S', S = x :: S' ∧ f x S' = some o := by
  unfold aPV at h; split at h
  · exact ⟨_, _, rfl, h⟩
  · cases h
theorem aPII_some {ρ : Type} {o : ρ} {S : List Value} {f : Int32 → Int32 → List Value → Option ρ} (h : aPII S f = some o) : ∃ x y S', S = .int y :: .int x :: S' ∧ f x y S' = some o := by
  unfold aPII at h
  obtain ⟨y, S1, e1, h1⟩ := aPI_some h
  obtain ⟨x, S2, e2, h2⟩ := aPI_some h1
  exact ⟨x, y, S2, by rw [e1, e2], h2⟩
theorem aPLL_some {ρ : Type} {o : ρ} {S : List Value} {f : Int64 → Int64 → List Value → Option ρ} (h : aPLL S f = some o) : ∃ x y S', S = .long y :: .long x :: S' ∧ f x y S' = some o := by
  unfold aPLL at h
  obtain ⟨y, S1, e1, h1⟩ := aPL_some h
  obtain ⟨x, S2, e2, h2⟩ := aPL_some h1
  exact ⟨x, y, S2, by rw [e1, e2], h2⟩
theorem aOne_some {ρ : Type} {o : ρ} {ns : List Nat} {f : Nat → Option ρ} (h : aOne ns f = some o) : ∃ t, ns = [t] ∧ f t = some o := by
  unfold aOne at h; split at h
  · exact ⟨_, rfl, h⟩
  · cases h
theorem aTwo_some {ρ : Type} {o : ρ} {ns : List Nat} {f : Nat → Nat → Option ρ} (h : aTwo ns f = some o) : ∃ t u, ns = [t, u] ∧ f t u = some o := by
  unfold aTwo at h; split at h
  · exact ⟨_, _, rfl, h⟩
  · cases h
theorem aDf_some {ρ : Type} {o : ρ} {ns : List Nat} {f : Nat → List Nat → Option ρ} (h : aDf ns f = some o) : ∃ d ts, ns = d :: ts ∧ f d ts = some o := by
  unfold aDf at h; split at h
  · exact ⟨_, _, rfl, h⟩
  · cases h
theorem aIf_some {ρ : Type} {o : ρ} {P : Prop} {dP : Decidable P} {f : Option ρ} (h : (if P then f else none) = some o) : P ∧ f = some o := by
  split at h
  · exact ⟨‹_›, h⟩
  · cases h
theorem aIx_some {ρ : Type} {o : ρ} {i : Int32} {n : Nat} {f : Nat → Option ρ} (h : aIx i n f = some o) : vp_in i n ∧ f i.toNatClampNeg = some o := by
  unfold aIx at h; split at h
  · cases h
  · exact ⟨‹_›, h⟩
theorem aNz_some {ρ : Type} {o : ρ} {y : Int32} {f : Option ρ} (h : aNz y f = some o) : ¬ y = 0 ∧ f = some o := by
  unfold aNz at h; split at h
  · cases h
  · exact ⟨‹_›, h⟩
theorem aNzL_some {ρ : Type} {o : ρ} {y : Int64} {f : Option ρ} (h : aNzL y f = some o) : ¬ y = 0 ∧ f = some o := by
  unfold aNzL at h; split at h
  · cases h
  · exact ⟨‹_›, h⟩
theorem aNar_bool : ∀ x : Int32, x = 0 ∨ x = 1 → narrow .boolean (.int x) = .int x := by
  intro x h
  rcases h with rfl | rfl <;> decide
theorem aNar_some {ρ : Type} {o : ρ} {ty : FieldType} {x : Int32} {f : Option ρ} (h : aNar ty x f = some o) : narrow ty (.int x) = .int x ∧ f = some o := by
  unfold aNar at h
  split at h
  · exact ⟨rfl, h⟩
  · obtain ⟨h1, h2⟩ := aIf_some h
    exact ⟨aNar_bool x h1, h2⟩
  · exact aIf_some h
theorem aNat_beq {a b : Nat} (h : Nat.beq a b = true) : a = b := Nat.eq_of_beq_eq_true h
theorem aGd_some {ρ : Type} {o : ρ} {kd : Nat → aKd} {rc : Option Nat} {as : List Value} {f : Option ρ} (h : aGd kd rc as f = some o) : f = some o ∧ ∀ ci, rc = some ci → ∃ b as', as = .ref b :: as' ∧ ((∃ fl, kd b = .inr (.inl (ci, fl))) ∨ ∃ nm vs, kd b = .inr (.inr (.inr (ci, nm, vs)))) := by
  unfold aGd at h
  split at h
  · exact ⟨h, fun ci e => by cases e⟩
  · split at h
    · rename_i ci _ b as'
      split at h
      · rename_i c fl hk
        split at h
        · rename_i hc
          have := aNat_beq hc
          subst this
          exact ⟨h, fun ci e => by cases e; exact ⟨b, as', rfl, Or.inl ⟨fl, hk⟩⟩⟩
        · cases h
      · rename_i c nm vs hk
        split at h
        · rename_i hc
          have := aNat_beq hc
          subst this
          exact ⟨h, fun ci e => by cases e; exact ⟨b, as', rfl, Or.inr ⟨nm, vs, hk⟩⟩⟩
        · cases h
      · cases h
    · cases h
def aFval (σ : aH) (b k : Nat) (t : Nat ⊕ Nat) : Value := match t with
  | .inl r => .ref r
  | .inr 1 => .long (σ.2 b k)
  | .inr _ => .int (σ.1 b k)
theorem aGet_some {ρ : Type} {o : ρ} {kd : Nat → aKd} {ci k b : Nat} {σ : aH} {f : Value → Option ρ} (h : aGet kd ci k b σ f = some o) :
    (∃ fl t, kd b = .inr (.inl (ci, fl)) ∧ fl[k]? = some t ∧ f (aFval σ b k t) = some o) ∨
    ∃ nm vs v, kd b = .inr (.inr (.inr (ci, nm, vs))) ∧ vs[k]? = some v ∧ f v = some o := by
  unfold aGet at h
  split at h
  · rename_i c fl hk
    split at h
    · rename_i hc
      have := aNat_beq hc
      subst this
      refine Or.inl ⟨fl, ?_⟩
      split at h
      · rename_i r hr; exact ⟨_, hk, hr, h⟩
      · rename_i hr; exact ⟨_, hk, hr, h⟩
      · rename_i t ht hr
        refine ⟨_, hk, hr, ?_⟩
        unfold aFval
        split
        · rename_i e; cases e
        · rename_i e; cases e; exact absurd rfl ht
        · exact h
      · cases h
    · cases h
  · rename_i c nm vs hk
    split at h
    · rename_i hc
      have := aNat_beq hc
      subst this
      split at h
      · rename_i v hv; exact Or.inr ⟨nm, vs, v, hk, hv, h⟩
      · cases h
    · cases h
  · cases h
theorem aPut_some {ρ : Type} {o : ρ} {kd : Nat → aKd} {ci k b : Nat} {v : Value} {σ : aH} {f : aH → Option ρ} (h : aPut kd ci k b v σ f = some o) :
    ∃ fl, kd b = .inr (.inl (ci, fl)) ∧ ((∃ x, fl[k]? = some (.inr 0) ∧ v = .int x ∧ f (aSI σ b k x) = some o) ∨ (∃ x, fl[k]? = some (.inr 1) ∧ v = .long x ∧ f (aSL σ b k x) = some o) ∨ ∃ x, fl[k]? = some (.inr 2) ∧ v = .int x ∧ (x = 0 ∨ x = 1) ∧ f (aSI σ b k x) = some o) := by
  unfold aPut at h
  split at h
  · rename_i c fl hk
    split at h
    · rename_i hc
      have := aNat_beq hc
      subst this
      refine ⟨fl, hk, ?_⟩
      split at h
      · rename_i hr; exact Or.inl ⟨_, hr, rfl, h⟩
      · rename_i hr; exact Or.inr (Or.inl ⟨_, hr, rfl, h⟩)
      · rename_i hr
        obtain ⟨h1, h2⟩ := aIf_some h
        exact Or.inr (Or.inr ⟨_, hr, rfl, h1, h2⟩)
      · cases h
    · cases h
  · cases h
theorem aArr_some {ρ : Type} {o : ρ} {kd : Nat → aKd} {t a : Nat} {σ : aH} {f : Nat → (Nat → Int32) → Option ρ} (h : aArr kd t a σ f = some o) : ∃ n, (kd a = .inl (t, n) ∧ f n (σ.1 a) = some o) ∨ ∃ g, kd a = .inr (.inr (.inl (t, n, g))) ∧ f n g = some o := by
  unfold aArr at h
  split at h
  · rename_i t' n hk
    split at h
    · rename_i hc
      have := aNat_beq hc
      subst this
      exact ⟨n, Or.inl ⟨hk, h⟩⟩
    · cases h
  · rename_i t' n g hk
    split at h
    · rename_i hc
      have := aNat_beq hc
      subst this
      exact ⟨n, Or.inr ⟨g, hk, h⟩⟩
    · cases h
  · cases h
theorem aArB_some {ρ : Type} {o : ρ} {kd : Nat → aKd} {a : Nat} {σ : aH} {f : Nat → (Nat → Int32) → Option ρ} (h : aArB kd a σ f = some o) : ∃ n, (kd a = .inl (1, n) ∧ f n (σ.1 a) = some o) ∨ (kd a = .inl (2, n) ∧ f n (σ.1 a) = some o) ∨ ∃ g, kd a = .inr (.inr (.inl (1, n, g))) ∧ f n g = some o := by
  unfold aArB at h
  split at h
  · rename_i n hk; exact ⟨n, Or.inl ⟨hk, h⟩⟩
  · rename_i n hk; exact ⟨n, Or.inr (Or.inl ⟨hk, h⟩)⟩
  · rename_i n g hk; exact ⟨n, Or.inr (Or.inr ⟨g, hk, h⟩)⟩
  · cases h
theorem aArL_some {ρ : Type} {o : ρ} {kd : Nat → aKd} {a : Nat} {σ : aH} {f : Nat → (Nat → Int64) → Option ρ} (h : aArL kd a σ f = some o) : ∃ n, kd a = .inl (3, n) ∧ f n (σ.2 a) = some o := by
  unfold aArL at h
  split at h
  · rename_i n hk; exact ⟨n, hk, h⟩
  · cases h
theorem aArS_some {ρ : Type} {o : ρ} {kd : Nat → aKd} {t a : Nat} {f : Nat → Option ρ} (h : aArS kd t a f = some o) : ∃ n, kd a = .inl (t, n) ∧ f n = some o := by
  unfold aArS at h
  split at h
  · rename_i t' n hk
    split at h
    · rename_i hc
      have := aNat_beq hc
      subst this
      exact ⟨n, hk, h⟩
    · cases h
  · cases h
theorem aLen_some {ρ : Type} {o : ρ} {kd : Nat → aKd} {a : Nat} {f : Nat → Option ρ} (h : aLen kd a f = some o) : ∃ t n, (kd a = .inl (t, n) ∨ ∃ g, t < 4 ∧ kd a = .inr (.inr (.inl (t, n, g)))) ∧ f n = some o := by
  unfold aLen at h
  split at h
  · rename_i t n hk; exact ⟨t, n, Or.inl hk, h⟩
  · rename_i t n g hk
    split at h
    · cases h
    · rename_i hb
      exact ⟨t, n, Or.inr ⟨g, Nat.lt_of_not_le fun h4 => Bool.noConfusion ((Nat.ble_eq_true_of_le h4).symm.trans hb), hk⟩, h⟩
  · cases h
theorem aRetI_some {ρ : Type} {o : ρ} {S : List Value} {rt : Option FieldType} {f : Int32 → Option ρ} (h : aRetI S rt f = some o) : ∃ x ty, S = [.int x] ∧ rt = some ty ∧ narrow ty (.int x) = .int x ∧ f x = some o := by
  unfold aRetI at h; split at h
  · obtain ⟨h1, h2⟩ := aNar_some h
    exact ⟨_, _, rfl, rfl, h1, h2⟩
  · cases h
theorem aRetL_some {ρ : Type} {o : ρ} {S : List Value} {rt : Option FieldType} {f : Int64 → Option ρ} (h : aRetL S rt f = some o) : ∃ x, S = [.long x] ∧ rt = some .long ∧ f x = some o := by
  unfold aRetL at h; split at h
  · exact ⟨_, rfl, rfl, h⟩
  · cases h
theorem aRetV_some {ρ : Type} {o : ρ} {S : List Value} {rt : Option FieldType} {f : Option ρ} (h : aRetV S rt f = some o) : S = [] ∧ rt = none ∧ f = some o := by
  unfold aRetV at h; split at h
  · exact ⟨rfl, rfl, h⟩
  · cases h
theorem aInv_some {ρ : Type} {o : ρ} {ns : List Nat} {f : Nat → Option ρ} {g : Option ρ} (h : aInv ns f g = some o) : (∃ mid, ns = [mid] ∧ f mid = some o) ∨ (ns = [] ∧ g = some o) := by
  unfold aInv at h; split at h
  · exact Or.inl ⟨_, rfl, h⟩
  · exact Or.inr ⟨rfl, h⟩
  · cases h
theorem aNew_some {ρ : Type} {o : ρ} {hd : Option (List (Nat × Nat × Nat))} {S : List Value} {f : Option ρ} (h : aNew hd S f = some o) : hd = none ∧ S = [] ∧ f = some o := by
  unfold aNew at h; split at h
  · exact ⟨rfl, rfl, h⟩
  · cases h
theorem aBst_some {ρ : Type} {o : ρ} {t : Nat} {f g : Option ρ} (h : aBst t f g = some o) : (t = 1 ∧ f = some o) ∨ (t = 2 ∧ g = some o) := by
  unfold aBst at h; split at h
  · exact Or.inl ⟨rfl, h⟩
  · exact Or.inr ⟨rfl, h⟩
  · cases h
-- ===== the world =====
def aVm (ad : Nat → Nat) (v : Value) : Value := match v with
  | .ref a => .ref (ad a)
  | .float _ => match ad 2000 with
    | 0 => .null
    | k + 1 => .ref k
  | v => v
theorem aVm_cat (ad : Nat → Nat) (v : Value) : (aVm ad v).category = v.category := by
  cases v with
  | float x =>
    show (match ad 2000 with
      | 0 => Value.null
      | k + 1 => Value.ref k).category = 1
    cases ad 2000 <;> rfl
  | _ => rfl
def aFv (ad : Nat → Nat) (σ : aH) (i k : Nat) (t : Nat ⊕ Nat) : Value := match t with
  | .inl r => .ref (ad r)
  | .inr 1 => .long (σ.2 i k)
  | .inr _ => .int (σ.1 i k)
theorem aVm_Fval (ad : Nat → Nat) (σ : aH) (b k : Nat) (t : Nat ⊕ Nat) : aVm ad (aFval σ b k t) = aFv ad σ b k t := by
  unfold aFval aFv
  split <;> rfl
def aEl (dA : Nat → ClassId) (ad : Nat → Nat) (kd : Nat → aKd) (σ : aH) (i : Nat) : va_E := match kd i with
  | .inl (t, n) => match t with
    | 3 => .inl (dA 3, n, .inr (.inl (σ.2 i)))
    | t => .inl (dA t, n, .inl (σ.1 i))
  | .inr (.inl (ci, fl)) => .inr (ci, fl.mapIdx (aFv ad σ i))
  | _ => .inr (0, [])
def aWs (N : Nat) (dA : Nat → ClassId) (ad : Nat → Nat) (kd : Nat → aKd) (σ : aH) : va_W := (List.range N).map fun i => (ad i, aEl dA ad kd σ i)
theorem aWs_get {N : Nat} {dA : Nat → ClassId} {ad : Nat → Nat} {kd : Nat → aKd} {σ : aH} {i : Nat} (h : i < N) : (aWs N dA ad kd σ)[i]? = some (ad i, aEl dA ad kd σ i) := by
  simp [aWs, h]
theorem aWs_set {N : Nat} {dA : Nat → ClassId} {ad : Nat → Nat} {kd : Nat → aKd} {σ σ' : aH} {i : Nat} {e : va_E} (he : e = aEl dA ad kd σ' i) (h : ∀ j, j ≠ i → aEl dA ad kd σ j = aEl dA ad kd σ' j) : (aWs N dA ad kd σ).set i (ad i, e) = aWs N dA ad kd σ' := by
  subst he
  apply List.ext_getElem?
  intro j
  rw [List.getElem?_set]
  by_cases hij : i = j
  · subst hij
    simp only [if_true]
    by_cases hi : i < N
    · rw [aWs_get hi]; simp [aWs, hi]
    · simp [aWs, hi]
  · rw [if_neg hij]
    by_cases hj : j < N
    · rw [aWs_get hj, aWs_get hj, h j (Ne.symm hij)]
    · simp [aWs, hj]
theorem aSI_ne {σ : aH} {a j : Nat} {x : Int32} {o : Nat} (h : o ≠ a) : (aSI σ a j x).1 o = σ.1 o := by
  unfold aSI
  dsimp only
  split
  · rename_i e; exact absurd (aNat_beq e) h
  · rfl
theorem aSI_eq {σ : aH} {a j : Nat} {x : Int32} : (aSI σ a j x).1 a = upd (σ.1 a) j x := by
  unfold aSI
  dsimp only
  split
  · rfl
  · rename_i e; rw [Nat.beq_refl] at e; cases e
theorem aSL_ne {σ : aH} {a j : Nat} {x : Int64} {o : Nat} (h : o ≠ a) : (aSL σ a j x).2 o = σ.2 o := by
  unfold aSL
  dsimp only
  split
  · rename_i e; exact absurd (aNat_beq e) h
  · rfl
theorem aSL_eq {σ : aH} {a j : Nat} {x : Int64} : (aSL σ a j x).2 a = vp_updL (σ.2 a) j x := by
  unfold aSL
  dsimp only
  split
  · rfl
  · rename_i e; rw [Nat.beq_refl] at e; cases e
theorem aEl_cong {dA : Nat → ClassId} {ad : Nat → Nat} {kd : Nat → aKd} {σ σ' : aH} {i : Nat} (h1 : σ.1 i = σ'.1 i) (h2 : σ.2 i = σ'.2 i) : aEl dA ad kd σ i = aEl dA ad kd σ' i := by
  unfold aEl
  rw [h1, h2]
  have : aFv ad σ i = aFv ad σ' i := by
    funext k t
    unfold aFv
    rw [h1, h2]
  rw [this]
