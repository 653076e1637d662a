/-! ===== the methods between their cut points, as equations (by wip/gen/emit_eqs.py) ===== -/
/-- a run of a method, in this claim's tables; G: the script -/
noncomputable def Rn (G : Nat × (Nat → Int32)) (d mid : Nat) (as : List Value) (σ : aH) : Option (aRs × aH) := aRun (tkd G.1 G.2) tmi tmt d mid as σ
/-- a run of a method's body from a place of it -/
noncomputable def Lq (G : Nat × (Nat → Int32)) (d : Nat) (M : aMt) (st : aSt) : Option (aRs × aH) := aLoop (tkd G.1 G.2) tmi (aRun (tkd G.1 G.2) tmi tmt d) M st
/-- a constant array's numbers -/
def tg (i : Nat) : Nat → Int32 := match tkL[i]? with
  | some (.inr (.inr (.inl (_, _, g)))) => g
  | _ => fun _ => 0
section ZEq
variable {ρ : Type}
theorem zIte {c : Prop} [Decidable c] {a b a' b' : Option ρ} (h1 : a = a') (h2 : b = b') : (if c then a else b) = if c then a' else b' := by rw [h1, h2]
theorem zNz {y : Int32} {f f' : Option ρ} (h : f = f') : aNz y f = aNz y f' := by rw [h]
theorem zNzL {y : Int64} {f f' : Option ρ} (h : f = f') : aNzL y f = aNzL y f' := by rw [h]
theorem zNar {t : FieldType} {x : Int32} {f f' : Option ρ} (h : f = f') : aNar t x f = aNar t x f' := by rw [h]
theorem zIx {i : Int32} {n : Nat} {f f' : Nat → Option ρ} (h : ∀ j, f j = f' j) : aIx i n f = aIx i n f' := by rw [funext h]
theorem zArr {kd : Nat → aKd} {t a : Nat} {σ : aH} {f f' : Nat → (Nat → Int32) → Option ρ} (h : ∀ n g, f n g = f' n g) : aArr kd t a σ f = aArr kd t a σ f' := by rw [funext fun n => funext (h n)]
theorem zArB {kd : Nat → aKd} {a : Nat} {σ : aH} {f f' : Nat → (Nat → Int32) → Option ρ} (h : ∀ n g, f n g = f' n g) : aArB kd a σ f = aArB kd a σ f' := by rw [funext fun n => funext (h n)]
theorem zArL {kd : Nat → aKd} {a : Nat} {σ : aH} {f f' : Nat → (Nat → Int64) → Option ρ} (h : ∀ n g, f n g = f' n g) : aArL kd a σ f = aArL kd a σ f' := by rw [funext fun n => funext (h n)]
theorem zArS {kd : Nat → aKd} {t a : Nat} {f f' : Nat → Option ρ} (h : ∀ n, f n = f' n) : aArS kd t a f = aArS kd t a f' := by rw [funext h]
theorem zLen {kd : Nat → aKd} {a : Nat} {f f' : Nat → Option ρ} (h : ∀ n, f n = f' n) : aLen kd a f = aLen kd a f' := by rw [funext h]
theorem zGd {kd : Nat → aKd} {rc : Option Nat} {as : List Value} {f f' : Option ρ} (h : f = f') : aGd kd rc as f = aGd kd rc as f' := by rw [h]
theorem zCV {r : Option (aRs × aH)} {f f' : aH → Option ρ} (h : ∀ σ, f σ = f' σ) : aCV r f = aCV r f' := by rw [funext h]
theorem zCI {r : Option (aRs × aH)} {f f' : Int32 → aH → Option ρ} (h : ∀ v σ, f v σ = f' v σ) : aCI r f = aCI r f' := by rw [funext fun v => funext (h v)]
theorem zCL {r : Option (aRs × aH)} {f f' : Int64 → aH → Option ρ} (h : ∀ v σ, f v σ = f' v σ) : aCL r f = aCL r f' := by rw [funext fun v => funext (h v)]
theorem zXV {r : Option (aRs × aH)} {f f' : aH → Option ρ} {g : Nat → aH → Option ρ} (h : ∀ σ, f σ = f' σ) : aXV r f g = aXV r f' g := by rw [funext h]
theorem zXI {r : Option (aRs × aH)} {f f' : Int32 → aH → Option ρ} {g : Nat → aH → Option ρ} (h : ∀ v σ, f v σ = f' v σ) : aXI r f g = aXI r f' g := by rw [funext fun v => funext (h v)]
end ZEq
