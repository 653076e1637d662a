/-! ===== the abstract machine's steps: naturality, the loop's fixpoint equation, unrolling ===== -/
theorem aLdR_map {ρ ρ' : Type} {φ : Option ρ → Option ρ'} (h0 : φ none = none) (L : List (Option Value)) (i : Nat) (f : Nat → Option ρ) : φ (aLdR L i f) = aLdR L i fun x => φ (f x) := by
  unfold aLdR; split <;> first | rfl | exact h0
theorem aLdI_map {ρ ρ' : Type} {φ : Option ρ → Option ρ'} (h0 : φ none = none) (L : List (Option Value)) (i : Nat) (f : Int32 → Option ρ) : φ (aLdI L i f) = aLdI L i fun x => φ (f x) := by
  unfold aLdI; split <;> first | rfl | exact h0
theorem aLdL_map {ρ ρ' : Type} {φ : Option ρ → Option ρ'} (h0 : φ none = none) (L : List (Option Value)) (i : Nat) (f : Int64 → Option ρ) : φ (aLdL L i f) = aLdL L i fun x => φ (f x) := by
  unfold aLdL; split <;> first | rfl | exact h0
theorem aPI_map {ρ ρ' : Type} {φ : Option ρ → Option ρ'} (h0 : φ none = none) (S : List Value) (f : Int32 → List Value → Option ρ) : φ (aPI S f) = aPI S fun x S => φ (f x S) := by
  unfold aPI; split <;> first | rfl | exact h0
theorem aPL_map {ρ ρ' : Type} {φ : Option ρ → Option ρ'} (h0 : φ none = none) (S : List Value) (f : Int64 → List Value → Option ρ) : φ (aPL S f) = aPL S fun x S => φ (f x S) := by
  unfold aPL; split <;> first | rfl | exact h0
theorem aPR_map {ρ ρ' : Type} {φ : Option ρ → Option ρ'} (h0 : φ none = none) (S : List Value) (f : Nat → List Value → Option ρ) : φ (aPR S f) = aPR S fun x S => φ (f x S) := by
  unfold aPR; split <;> first | rfl | exact h0
theorem aPV_map {ρ ρ' : Type} {φ : Option ρ → Option ρ'} (h0 : φ none = none) (S : List Value) (f : Value → List Value → Option ρ) : φ (aPV S f) = aPV S fun x S => φ (f x S) := by
  unfold aPV; split <;> first | rfl | exact h0
theorem aPII_map {ρ ρ' : Type} {φ : Option ρ → Option ρ'} (h0 : φ none = none) (S : List Value) (f : Int32 → Int32 → List Value → Option ρ) : φ (aPII S f) = aPII S fun x y S => φ (f x y S) := by
  unfold aPII; rw [aPI_map h0]; simp only [aPI_map h0]
theorem aPLL_map {ρ ρ' : Type} {φ : Option ρ → Option ρ'} (h0 : φ none = none) (S : List Value) (f : Int64 → Int64 → List Value → Option ρ) : φ (aPLL S f) = aPLL S fun x y S => φ (f x y S) := by
  unfold aPLL; rw [aPL_map h0]; simp only [aPL_map h0]
theorem aOne_map {ρ ρ' : Type} {φ : Option ρ → Option ρ'} (h0 : φ none = none) (ns : List Nat) (f : Nat → Option ρ) : φ (aOne ns f) = aOne ns fun x => φ (f x) := by
  unfold aOne; split <;> first | rfl | exact h0
theorem aTwo_map {ρ ρ' : Type} {φ : Option ρ → Option ρ'} (h0 : φ none = none) (ns : List Nat) (f : Nat → Nat → Option ρ) : φ (aTwo ns f) = aTwo ns fun x y => φ (f x y) := by
  unfold aTwo; split <;> first | rfl | exact h0
theorem aIx_map {ρ ρ' : Type} {φ : Option ρ → Option ρ'} (h0 : φ none = none) (i : Int32) (n : Nat) (f : Nat → Option ρ) : φ (aIx i n f) = aIx i n fun x => φ (f x) := by
  unfold aIx; split <;> first | rfl | exact h0
theorem aNz_map {ρ ρ' : Type} {φ : Option ρ → Option ρ'} (h0 : φ none = none) (y : Int32) (f : Option ρ) : φ (aNz y f) = aNz y (φ f) := by
  unfold aNz; split <;> first | rfl | exact h0
theorem aNzL_map {ρ ρ' : Type} {φ : Option ρ → Option ρ'} (h0 : φ none = none) (y : Int64) (f : Option ρ) : φ (aNzL y f) = aNzL y (φ f) := by
  unfold aNzL; split <;> first | rfl | exact h0
theorem aNar_map {ρ ρ' : Type} {φ : Option ρ → Option ρ'} (h0 : φ none = none) (ty : FieldType) (x : Int32) (f : Option ρ) : φ (aNar ty x f) = aNar ty x (φ f) := by
  unfold aNar; split <;> (try split) <;> first | rfl | exact h0
theorem aCmp_map {ρ ρ' : Type} {φ : Option ρ → Option ρ'} (h0 : φ none = none) (c : ClassFile.Cond) (x y : Int32) (a b : Option ρ) : φ (aCmp c x y a b) = aCmp c x y (φ a) (φ b) := by
  unfold aCmp; cases c <;> dsimp only <;> split <;> rfl
theorem aSw_map {ρ ρ' : Type} {φ : Option ρ → Option ρ'} (h0 : φ none = none) (x lo : Int32) (f : Nat → Option ρ) (d : Nat) (ts : List Nat) : φ (aSw x lo f d ts) = aSw x lo (fun t => φ (f t)) d ts := by
  induction ts generalizing lo with
  | nil => rfl
  | cons t ts ih => unfold aSw; split <;> first | rfl | exact ih _
theorem aDf_map {ρ ρ' : Type} {φ : Option ρ → Option ρ'} (h0 : φ none = none) (ns : List Nat) (f : Nat → List Nat → Option ρ) : φ (aDf ns f) = aDf ns fun d ts => φ (f d ts) := by
  unfold aDf; split <;> first | rfl | exact h0
theorem aGet_map {ρ ρ' : Type} {φ : Option ρ → Option ρ'} (h0 : φ none = none) (kd : Nat → aKd) (ci k b : Nat) (σ : aH) (f : Value → Option ρ) : φ (aGet kd ci k b σ f) = aGet kd ci k b σ fun v => φ (f v) := by
  unfold aGet; (repeat' split) <;> first | rfl | exact h0
theorem aPut_map {ρ ρ' : Type} {φ : Option ρ → Option ρ'} (h0 : φ none = none) (kd : Nat → aKd) (ci k b : Nat) (v : Value) (σ : aH) (f : aH → Option ρ) : φ (aPut kd ci k b v σ f) = aPut kd ci k b v σ fun σ => φ (f σ) := by
  unfold aPut; (repeat' split) <;> first | rfl | exact h0 | exact aNar_map h0 _ _ _
theorem aArr_map {ρ ρ' : Type} {φ : Option ρ → Option ρ'} (h0 : φ none = none) (kd : Nat → aKd) (t a : Nat) (σ : aH) (f : Nat → (Nat → Int32) → Option ρ) : φ (aArr kd t a σ f) = aArr kd t a σ fun n g => φ (f n g) := by
  unfold aArr; (repeat' split) <;> first | rfl | exact h0
theorem aArB_map {ρ ρ' : Type} {φ : Option ρ → Option ρ'} (h0 : φ none = none) (kd : Nat → aKd) (a : Nat) (σ : aH) (f : Nat → (Nat → Int32) → Option ρ) : φ (aArB kd a σ f) = aArB kd a σ fun n g => φ (f n g) := by
  unfold aArB; (repeat' split) <;> first | rfl | exact h0
theorem aArL_map {ρ ρ' : Type} {φ : Option ρ → Option ρ'} (h0 : φ none = none) (kd : Nat → aKd) (a : Nat) (σ : aH) (f : Nat → (Nat → Int64) → Option ρ) : φ (aArL kd a σ f) = aArL kd a σ fun n g => φ (f n g) := by
  unfold aArL; (repeat' split) <;> first | rfl | exact h0
theorem aArS_map {ρ ρ' : Type} {φ : Option ρ → Option ρ'} (h0 : φ none = none) (kd : Nat → aKd) (t a : Nat) (f : Nat → Option ρ) : φ (aArS kd t a f) = aArS kd t a fun n => φ (f n) := by
  unfold aArS; (repeat' split) <;> first | rfl | exact h0
theorem aLen_map {ρ ρ' : Type} {φ : Option ρ → Option ρ'} (h0 : φ none = none) (kd : Nat → aKd) (a : Nat) (f : Nat → Option ρ) : φ (aLen kd a f) = aLen kd a fun n => φ (f n) := by
  unfold aLen; (repeat' split) <;> first | rfl | exact h0
theorem aCV_map {ρ ρ' : Type} {φ : Option ρ → Option ρ'} (h0 : φ none = none) (r : Option (aRs × aH)) (f : aH → Option ρ) : φ (aCV r f) = aCV r fun σ => φ (f σ) := by
  unfold aCV; split <;> first | rfl | exact h0
theorem aCI_map {ρ ρ' : Type} {φ : Option ρ → Option ρ'} (h0 : φ none = none) (r : Option (aRs × aH)) (f : Int32 → aH → Option ρ) : φ (aCI r f) = aCI r fun v σ => φ (f v σ) := by
  unfold aCI; split <;> first | rfl | exact h0
theorem aCL_map {ρ ρ' : Type} {φ : Option ρ → Option ρ'} (h0 : φ none = none) (r : Option (aRs × aH)) (f : Int64 → aH → Option ρ) : φ (aCL r f) = aCL r fun v σ => φ (f v σ) := by
  unfold aCL; split <;> first | rfl | exact h0
theorem aXV_map {ρ ρ' : Type} {φ : Option ρ → Option ρ'} (h0 : φ none = none) (r : Option (aRs × aH)) (f : aH → Option ρ) (g : Nat → aH → Option ρ) : φ (aXV r f g) = aXV r (fun σ => φ (f σ)) fun k σ => φ (g k σ) := by
  unfold aXV; split <;> first | rfl | exact h0
theorem aXI_map {ρ ρ' : Type} {φ : Option ρ → Option ρ'} (h0 : φ none = none) (r : Option (aRs × aH)) (f : Int32 → aH → Option ρ) (g : Nat → aH → Option ρ) : φ (aXI r f g) = aXI r (fun v σ => φ (f v σ)) fun k σ => φ (g k σ) := by
  unfold aXI; split <;> first | rfl | exact h0
theorem aTh_map {ρ ρ' : Type} {φ : Option ρ → Option ρ'} (h0 : φ none = none) (hd : Option (List (Nat × Nat × Nat))) (pc k : Nat) (go : Nat → Option ρ) (out : Option ρ) : φ (aTh hd pc k go out) = aTh hd pc k (fun t => φ (go t)) (φ out) := by
  unfold aTh; (repeat' split) <;> first | rfl | exact h0
theorem aGd_map {ρ ρ' : Type} {φ : Option ρ → Option ρ'} (h0 : φ none = none) (kd : Nat → aKd) (rc : Option Nat) (as : List Value) (f : Option ρ) : φ (aGd kd rc as f) = aGd kd rc as (φ f) := by
  unfold aGd; (repeat' split) <;> first | rfl | exact h0
theorem aCall_map {ρ ρ' : Type} {φ : Option ρ → Option ρ'} (h0 : φ none = none) (kd : Nat → aKd) (mi : Nat → Nat × Nat × Bool × Option Nat) (run : Nat → List Value → aH → Option (aRs × aH)) (hd : Option (List (Nat × Nat × Nat))) (ret : aRs × aH → Option ρ) (go : Nat → List (Option Value) → List Value → aH → Option ρ) (pc : Nat) (L : List (Option Value)) (S : List Value) (σ : aH) (mid : Nat) : φ (aCall kd mi run hd ret go pc L S σ mid) = aCall kd mi run hd (fun r => φ (ret r)) (fun a b c d => φ (go a b c d)) pc L S σ mid := by
  unfold aCall; split; split
  · rw [aGd_map h0]; congr 1; (repeat' split) <;> first | rfl | exact h0 | exact aCV_map h0 _ _ | exact aCI_map h0 _ _ | exact aCL_map h0 _ _ | (rw [aXV_map h0]; simp only [aTh_map h0]) | (rw [aXI_map h0]; simp only [aTh_map h0])
  · exact h0
theorem aCopy_map {ρ ρ' : Type} {φ : Option ρ → Option ρ'} (h0 : φ none = none) (kd : Nat → aKd) (go : Nat → List (Option Value) → List Value → aH → Option ρ) (pc : Nat) (L : List (Option Value)) (S : List Value) (σ : aH) : φ (aCopy kd go pc L S σ) = aCopy kd (fun a b c d => φ (go a b c d)) pc L S σ := by
  unfold aCopy; simp only [aPI_map h0, aPR_map h0, aArS_map h0, apply_ite φ, h0]
theorem aRetI_map {ρ ρ' : Type} {φ : Option ρ → Option ρ'} (h0 : φ none = none) (S : List Value) (rt : Option FieldType) (f : Int32 → Option ρ) : φ (aRetI S rt f) = aRetI S rt fun x => φ (f x) := by
  unfold aRetI; split <;> first | exact aNar_map h0 _ _ _ | exact h0
theorem aRetL_map {ρ ρ' : Type} {φ : Option ρ → Option ρ'} (h0 : φ none = none) (S : List Value) (rt : Option FieldType) (f : Int64 → Option ρ) : φ (aRetL S rt f) = aRetL S rt fun x => φ (f x) := by
  unfold aRetL; split <;> first | rfl | exact h0
theorem aRetV_map {ρ ρ' : Type} {φ : Option ρ → Option ρ'} (h0 : φ none = none) (S : List Value) (rt : Option FieldType) (f : Option ρ) : φ (aRetV S rt f) = aRetV S rt (φ f) := by
  unfold aRetV; split <;> first | rfl | exact h0
theorem aInv_map {ρ ρ' : Type} {φ : Option ρ → Option ρ'} (h0 : φ none = none) (ns : List Nat) (f : Nat → Option ρ) (g : Option ρ) : φ (aInv ns f g) = aInv ns (fun x => φ (f x)) (φ g) := by
  unfold aInv; split <;> first | rfl | exact h0
theorem aNew_map {ρ ρ' : Type} {φ : Option ρ → Option ρ'} (h0 : φ none = none) (hd : Option (List (Nat × Nat × Nat))) (S : List Value) (f : Option ρ) : φ (aNew hd S f) = aNew hd S (φ f) := by
  unfold aNew; split <;> first | rfl | exact h0
theorem aBst_map {ρ ρ' : Type} {φ : Option ρ → Option ρ'} (h0 : φ none = none) (t : Nat) (f g : Option ρ) : φ (aBst t f g) = aBst t (φ f) (φ g) := by
  unfold aBst; split <;> first | rfl | exact h0
set_option maxHeartbeats 4000000 in
theorem aIns_map {ρ ρ' : Type} {φ : Option ρ → Option ρ'} (h0 : φ none = none) (kd : Nat → aKd) (mi : Nat → Nat × Nat × Bool × Option Nat) (run : Nat → List Value → aH → Option (aRs × aH)) (rt : Option FieldType) (hd : Option (List (Nat × Nat × Nat))) (ret : aRs × aH → Option ρ) (go : Nat → List (Option Value) → List Value → aH → Option ρ) (pc : Nat) (L : List (Option Value)) (S : List Value) (σ : aH) (im : Int32) (ns : List Nat) (cv : Value) (ins : Instr) : φ (aIns kd mi run rt hd ret go pc L S σ im ns cv ins) = aIns kd mi run rt hd (fun r => φ (ret r)) (fun a b c d => φ (go a b c d)) pc L S σ im ns cv ins := by
  cases ins <;> dsimp only [aIns] <;> first | exact h0 | rfl | (simp only [aLdR_map h0, aLdI_map h0, aLdL_map h0, aPI_map h0, aPL_map h0, aPR_map h0, aPV_map h0, aPII_map h0, aPLL_map h0, aOne_map h0, aTwo_map h0, aIx_map h0, aNz_map h0, aNzL_map h0, aNar_map h0, aCmp_map h0, aSw_map h0, aDf_map h0, aGet_map h0, aPut_map h0, aArr_map h0, aArB_map h0, aArL_map h0, aArS_map h0, aLen_map h0, aCall_map h0, aCopy_map h0, aRetI_map h0, aRetL_map h0, aRetV_map h0, aInv_map h0, aNew_map h0, aBst_map h0, apply_ite φ, h0]; done)
theorem aStep_map {ρ ρ' : Type} {φ : Option ρ → Option ρ'} (h0 : φ none = none) (kd : Nat → aKd) (mi : Nat → Nat × Nat × Bool × Option Nat) (run : Nat → List Value → aH → Option (aRs × aH)) (M : aMt) (ret : aRs × aH → Option ρ) (k : aSt → Option ρ) (st : aSt) : φ (aStep kd mi run M ret k st) = aStep kd mi run M (fun r => φ (ret r)) (fun s => φ (k s)) st := by
  unfold aStep; split
  · rw [aIns_map h0]
  · exact h0
section AFx
variable (kd : Nat → aKd) (mi : Nat → Nat × Nat × Bool × Option Nat) (run : Nat → List Value → aH → Option (aRs × aH)) (M : aMt)
def aStep0 (st : aSt) : Option (aSt ⊕ (aRs × aH)) := aStep kd mi run M (fun r => some (.inr r)) (fun s => some (.inl s)) st
def aPhi {ρ : Type} (ret : aRs × aH → Option ρ) (k : aSt → Option ρ) (o : Option (aSt ⊕ (aRs × aH))) : Option ρ := match o with
  | some (.inl s) => k s
  | some (.inr r) => ret r
  | none => none
theorem aStep_eq {ρ : Type} (ret : aRs × aH → Option ρ) (k : aSt → Option ρ) (st : aSt) : aStep kd mi run M ret k st = aPhi ret k (aStep0 kd mi run M st) := by
  unfold aStep0
  rw [aStep_map (φ := aPhi ret k) rfl]
  rfl
theorem aLp_succ (n : Nat) (st : aSt) : aLp kd mi run M (n + 1) st = aPhi some (aLp kd mi run M n) (aStep0 kd mi run M st) := by
  show aStep kd mi run M some (aLp kd mi run M n) st = _
  exact aStep_eq ..
theorem aLp_mono {n : Nat} : ∀ {st : aSt} {r : aRs × aH}, aLp kd mi run M n st = some r → aLp kd mi run M (n + 1) st = some r := by
  induction n with
  | zero => intro st r h; cases h
  | succ n ih =>
    intro st r h
    rw [aLp_succ] at h ⊢
    cases hs : aStep0 kd mi run M st with
    | none => rw [hs] at h; cases h
    | some q =>
      rw [hs] at h
      cases q with
      | inl s => exact ih h
      | inr r' => exact h
theorem aLp_le {n m : Nat} (hnm : n ≤ m) {st : aSt} {r : aRs × aH} (h : aLp kd mi run M n st = some r) : aLp kd mi run M m st = some r := by
  induction hnm with
  | refl => exact h
  | step _ ih => exact aLp_mono kd mi run M ih
theorem aLoop_some {st : aSt} {r : aRs × aH} : aLoop kd mi run M st = some r ↔ ∃ n : Nat, aLp kd mi run M n st = some r := by
  unfold aLoop
  constructor
  · intro h
    split at h
    · rename_i hx
      have h1 := Classical.choose_spec (Classical.choose_spec hx)
      exact ⟨Classical.choose hx, by rw [h1]; exact h⟩
    · cases h
  · rintro ⟨n, h⟩
    have hx : ∃ (n : Nat) (r : aRs × aH), aLp kd mi run M n st = some r := ⟨n, r, h⟩
    rw [dif_pos hx]
    have h1 := Classical.choose_spec (Classical.choose_spec hx)
    have h2 := aLp_le kd mi run M (Nat.le_max_left n (Classical.choose hx)) h
    have h3 := aLp_le kd mi run M (Nat.le_max_right n (Classical.choose hx)) h1
    exact h3.symm.trans h2
theorem aLoop_phi (st : aSt) : aLoop kd mi run M st = aPhi some (aLoop kd mi run M) (aStep0 kd mi run M st) := by
  apply Option.ext
  intro r
  rw [aLoop_some]
  constructor
  · rintro ⟨n, h⟩
    cases n with
    | zero => cases h
    | succ n =>
      rw [aLp_succ] at h
      cases hs : aStep0 kd mi run M st with
      | none => rw [hs] at h; cases h
      | some q =>
        rw [hs] at h
        cases q with
        | inl s => exact (aLoop_some kd mi run M).mpr ⟨n, h⟩
        | inr r' => exact h
  · intro h
    cases hs : aStep0 kd mi run M st with
    | none => rw [hs] at h; cases h
    | some q =>
      rw [hs] at h
      cases q with
      | inl s =>
        obtain ⟨n, h⟩ := (aLoop_some kd mi run M).mp h
        exact ⟨n + 1, by rw [aLp_succ, hs]; exact h⟩
      | inr r' => exact ⟨1, by rw [aLp_succ, hs]; exact h⟩
theorem aLoop_eq (st : aSt) : aLoop kd mi run M st = aStep kd mi run M some (aLoop kd mi run M) st := by
  rw [aStep_eq]
  exact aLoop_phi ..
/-- n steps, up to the places where it stops -/
noncomputable def aUn (stop : List Nat) : Nat → aSt → Option (aRs × aH)
  | 0, st => aLoop kd mi run M st
  | n + 1, st => aStep kd mi run M some (fun st => match aLook st.1 (stop.map fun q => (q, ())) with
    | some _ => aLoop kd mi run M st
    | none => aUn stop n st) st
theorem aUn_eq (stop : List Nat) (n : Nat) : ∀ st : aSt, aLoop kd mi run M st = aUn kd mi run M stop n st := by
  induction n with
  | zero => intro st; rfl
  | succ n ih =>
    intro st
    rw [aLoop_eq]
    unfold aUn
    congr 1
    funext st
    split
    · rfl
    · exact ih st
end AFx
