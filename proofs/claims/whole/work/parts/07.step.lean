/-! ===== a row of code is what the class file has; a step of the abstract machine is the machine's ===== -/
/-- the length of an instruction -/
def aIl : Instr → Nat
  | .aload _ | .astore _ | .iload _ | .istore _ | .lload _ | .lstore _ | .bipush _ | .ldc _ | .newarray _ => 2
  | .sipush _ | .iinc _ _ | .ldc_w _ | .ldc2_w _ | .getstatic _ | .putstatic _ | .getfield _ | .putfield _ | .goto _ | .if_icmp _ _ | .ifCond _ _ | .invokevirtual _ | .invokestatic _ | .invokespecial _ | .new _ => 3
  | _ => 1
def aIsSw : Instr → Bool
  | .tableswitch _ _ _ _ => true
  | _ => false
def aDc (cc : ByteArray) (pc : Nat) (ins : Instr) (n : Nat) : Bool := decide (decode cc pc = .ok (ins, n))
def aSwOk (pc : Nat) (im : Int32) (lo hi : Int) (offs : Array Int) (ts : List Nat) : Bool :=
  decide ((ts.length : Int) = hi - lo + 1) && (List.range ts.length).all fun k => decide ((im + Int32.ofNat k).toInt = lo + k) && match offs[k]?, ts[k]? with
    | some off, some t => decide ((pc : Int) + off = (t : Int))
    | _, _ => false
def aCkD (cc : ByteArray) (pc : Nat) (ins : Instr) : Bool := match ins with
  | .tableswitch d lo hi offs => match decode cc pc with
    | .ok (i, _) => decide (i = .tableswitch d lo hi offs)
    | .error _ => false
  | ins => aDc cc pc ins (aIl ins)
def aCkX (fL pL : List (Nat × Nat × Nat × Nat)) (gL kL : List (Nat × Nat × Value)) (cL vL : List (Nat × Nat × Nat)) (yL : List (Nat × Nat)) (tL : List (Nat × Nat × Nat × Nat)) (own : Nat) (cc : ByteArray) (pc : Nat) (im : Int32) (ns : List Nat) (cv : Value) (ins : Instr) : Bool := match ins with
    | .iconst n => decide (Int32.ofInt n = im)
    | .bipush n => decide ((Int8.ofInt n).toInt32 = im)
    | .sipush n => decide ((Int16.ofInt n).toInt32 = im)
    | .iinc _ n => decide (Int32.ofInt n = im)
    | .lconst n => decide (cv = .long (Int64.ofNat n.val))
    | .ldc i => decide ((own, i, cv) ∈ kL) && match cv with
      | .int _ => true
      | .ref _ => true
      | _ => false
    | .ldc_w i => decide ((own, i, cv) ∈ kL) && match cv with
      | .int _ => true
      | _ => false
    | .ldc2_w i => decide ((own, i, cv) ∈ kL) && match cv with
      | .long _ => true
      | _ => false
    | .getstatic i => decide ((own, i, cv) ∈ gL)
    | .getfield i => match ns with
      | [ci, k] => decide ((own, i, ci, k) ∈ fL)
      | _ => false
    | .putfield i => match ns with
      | [ci, k] => decide ((own, i, ci, k) ∈ pL)
      | _ => false
    | .goto off => match ns with
      | [t] => decide ((pc : Int) + off = (t : Int))
      | _ => false
    | .if_icmp _ off => match ns with
      | [t] => decide ((pc : Int) + off = (t : Int))
      | _ => false
    | .ifCond _ off => match ns with
      | [t] => decide ((pc : Int) + off = (t : Int))
      | _ => false
    | .tableswitch d lo hi offs => match ns with
      | dt :: ts => decide ((pc : Int) + d = (dt : Int)) && aSwOk pc im lo hi offs ts
      | _ => false
    | .invokevirtual i => match ns with
      | [mid] => decide ((own, i, mid) ∈ vL)
      | _ => false
    | .invokestatic i => match ns with
      | [mid] => decide ((own, i, mid) ∈ cL)
      | [] => decide ((own, i) ∈ yL)
      | _ => false
    | .new i => match ns with
      | [k] => tL.any fun q => decide (q.1 = own ∧ q.2.1 = i ∧ q.2.2.2 = k) && (aDc cc (pc + 3) .dup 1 && (aDc cc (pc + 4) (.invokespecial q.2.2.1) 3 && aDc cc (pc + 7) .athrow 1))
      | _ => false
    | _ => true
def aCk (fL pL : List (Nat × Nat × Nat × Nat)) (gL kL : List (Nat × Nat × Value)) (cL vL : List (Nat × Nat × Nat)) (yL : List (Nat × Nat)) (tL : List (Nat × Nat × Nat × Nat)) (own : Nat) (cc : ByteArray) (q : Nat × aEn) : Bool :=
  aCkD cc q.1 q.2.1 && aCkX fL pL gL kL cL vL yL tL own cc q.1 q.2.2.1 q.2.2.2.1 q.2.2.2.2 q.2.1
theorem aSw_some {ρ : Type} {o : ρ} {x : Int32} {f : Nat → Option ρ} {d : Nat} : ∀ {ts : List Nat} {lo : Int32}, aSw x lo f d ts = some o → (∃ k t, ts[k]? = some t ∧ x = lo + Int32.ofNat k ∧ f t = some o) ∨ ((∀ k, k < ts.length → x ≠ lo + Int32.ofNat k) ∧ f d = some o)
  | [], lo, h => Or.inr ⟨fun k hk => by simp at hk, h⟩
  | t :: ts, lo, h => by
    unfold aSw at h
    split at h
    · rename_i e
      exact Or.inl ⟨0, t, rfl, by rw [e]; simp, h⟩
    · rename_i e
      have e2 : ∀ k : Nat, lo + 1 + Int32.ofNat k = lo + Int32.ofNat (k + 1) := by
        intro k
        rw [Int32.ofNat_add, Int32.add_assoc, Int32.add_comm 1]
        rfl
      rcases aSw_some h with ⟨k, t', h1, h2, h3⟩ | ⟨h1, h2⟩
      · exact Or.inl ⟨k + 1, t', h1, by rw [h2, e2], h3⟩
      · refine Or.inr ⟨fun k hk => ?_, h2⟩
        cases k with
        | zero => intro z; exact e (by rw [z]; simp)
        | succ k => rw [← e2]; exact h1 k (by simpa using hk)
theorem aSwOk_spec {pc : Nat} {im : Int32} {lo hi : Int} {offs : Array Int} {ts : List Nat} (h : aSwOk pc im lo hi offs ts = true) : (ts.length : Int) = hi - lo + 1 ∧ ∀ k, k < ts.length → (im + Int32.ofNat k).toInt = lo + k ∧ ∃ off t, offs[k]? = some off ∧ ts[k]? = some t ∧ (pc : Int) + off = (t : Int) := by
  unfold aSwOk at h
  rw [Bool.and_eq_true] at h
  refine ⟨of_decide_eq_true h.1, fun k hk => ?_⟩
  have h2 := List.all_eq_true.mp h.2 k (List.mem_range.mpr hk)
  rw [Bool.and_eq_true] at h2
  refine ⟨of_decide_eq_true h2.1, ?_⟩
  have h3 := h2.2
  split at h3
  · rename_i off t e1 e2
    exact ⟨off, t, e1, e2, of_decide_eq_true h3⟩
  · cases h3
theorem aDc_eq {cc : ByteArray} {pc : Nat} {ins : Instr} {n : Nat} (h : aDc cc pc ins n = true) : decode cc pc = .ok (ins, n) := of_decide_eq_true h
