/-! ===== ONE STEP: what the abstract machine does, the machine does ===== -/
theorem aEl_arr {dA : Nat → ClassId} {ad : Nat → Nat} {kd : Nat → aKd} {σ : aH} {a t n : Nat} (hk : kd a = .inl (t, n)) (ht : t ≠ 3) : aEl dA ad kd σ a = .inl (dA t, n, .inl (σ.1 a)) := by
  unfold aEl
  rw [hk]
  dsimp only
  split
  · exact absurd rfl ht
  · rfl
theorem aEl_lng {dA : Nat → ClassId} {ad : Nat → Nat} {kd : Nat → aKd} {σ : aH} {a n : Nat} (hk : kd a = .inl (3, n)) : aEl dA ad kd σ a = .inl (dA 3, n, .inr (.inl (σ.2 a))) := by
  unfold aEl
  rw [hk]
  rfl
theorem aEl_obj {dA : Nat → ClassId} {ad : Nat → Nat} {kd : Nat → aKd} {σ : aH} {a ci : Nat} {fl : List (Nat ⊕ Nat)} (hk : kd a = .inr (.inl (ci, fl))) : aEl dA ad kd σ a = .inr (ci, fl.mapIdx (aFv ad σ a)) := by
  unfold aEl
  rw [hk]
/-- a field's type by its tag -/
def aFt : Nat → FieldType
  | 0 => .int
  | 1 => .long
  | _ => .boolean
def aFok (cl : List vw_C) (cn : Nat → String) (fn : Nat → Nat → String × String × String) (WS : List Cond) (q : Nat × Nat × Nat × Nat) : Prop := match cl[q.2.2.1]? with
  | some (_, T, n) => q.2.2.2 < n ∧ Cond.fieldLink (cn q.1) q.2.1 (T q.2.2.2).1 (T q.2.2.2).2.1 (T q.2.2.2).2.2.1 ∈ WS
  | none => Cond.fieldLink (cn q.1) q.2.1 (fn q.2.2.1 q.2.2.2).1 (fn q.2.2.1 q.2.2.2).2.1 (fn q.2.2.1 q.2.2.2).2.2 ∈ WS
def aPok (cl : List vw_C) (cn : Nat → String) (WS : List Cond) (q : Nat × Nat × Nat × Nat) : Prop := match cl[q.2.2.1]? with
  | some (_, T, n) => q.2.2.2 < n ∧ Cond.fieldLink (cn q.1) q.2.1 (T q.2.2.2).1 (T q.2.2.2).2.1 (T q.2.2.2).2.2.1 ∈ WS ∧ (T q.2.2.2).2.2.2 = false
  | none => False
def aKok (cn : Nat → String) (strs : List (String × Nat × String × Nat)) (WS : List Cond) (q : Nat × Nat × Value) : Prop := match q.2.2 with
  | .int x => Cond.constant (cn q.1) q.2.1 x ∈ WS
  | .long x => Cond.constantLong (cn q.1) q.2.1 x ∈ WS
  | .ref a => ∃ tx, (cn q.1, q.2.1, tx, a) ∈ strs
  | _ => False
theorem aFs_setI {ad : Nat → Nat} {σ : aH} {b k tag : Nat} {x : Int32} {fl : List (Nat ⊕ Nat)} (ht : fl[k]? = some (.inr tag)) (h1 : tag ≠ 1) : (fl.mapIdx (aFv ad σ b)).set k (.int x) = fl.mapIdx (aFv ad (aSI σ b k x) b) := by
  apply List.ext_getElem?
  intro j
  rw [List.getElem?_set, List.getElem?_mapIdx, List.getElem?_mapIdx, List.length_mapIdx]
  by_cases e : k = j
  · subst e
    rw [if_pos rfl, if_pos (List.getElem?_eq_some_iff.mp ht).1, ht]
    show some _ = some _
    unfold aFv
    split
    · rename_i z; cases z
    · rename_i z; cases z; exact absurd rfl h1
    · rw [aSI_eq]; simp [upd]
  · rw [if_neg e]
    cases fl[j]? with
    | none => rfl
    | some t =>
      show some _ = some _
      unfold aFv
      rw [aSI_eq]
      have : upd (σ.1 b) k x j = σ.1 b j := by simp [upd, Ne.symm e]
      rw [this]
      rfl
theorem aFs_setL {ad : Nat → Nat} {σ : aH} {b k : Nat} {x : Int64} {fl : List (Nat ⊕ Nat)} (ht : fl[k]? = some (.inr 1)) : (fl.mapIdx (aFv ad σ b)).set k (.long x) = fl.mapIdx (aFv ad (aSL σ b k x) b) := by
  apply List.ext_getElem?
  intro j
  rw [List.getElem?_set, List.getElem?_mapIdx, List.getElem?_mapIdx, List.length_mapIdx]
  by_cases e : k = j
  · subst e
    rw [if_pos rfl, if_pos (List.getElem?_eq_some_iff.mp ht).1, ht]
    show some _ = some _
    unfold aFv
    rw [aSL_eq]; simp [vp_updL]
  · rw [if_neg e]
    cases fl[j]? with
    | none => rfl
    | some t =>
      show some _ = some _
      unfold aFv
      rw [aSL_eq]
      have : vp_updL (σ.2 b) k x j = σ.2 b j := by simp [vp_updL, Ne.symm e]
      rw [this]
      rfl
theorem aFits_bool {x : Int32} (h : x = 0 ∨ x = 1) : fits .boolean (.int x) = true := by
  rcases h with rfl | rfl <;> decide
theorem aCp_ne {σ : aH} {a b n o : Nat} (h : o ≠ b) : (aCp σ a b n).1 o = σ.1 o := by
  unfold aCp
  dsimp only
  split
  · rename_i e; exact absurd (aNat_beq e) h
  · rfl
theorem aCp_eq {σ : aH} {a b n : Nat} : (aCp σ a b n).1 b = va_cpy (σ.1 a) (σ.1 b) (Int32.toNatClampNeg 0) (Int32.toNatClampNeg 0) n := by
  unfold aCp
  dsimp only
  split
  · funext k
    unfold va_cpy
    have z : Int32.toNatClampNeg 0 = 0 := by decide
    rw [z]
    simp
  · rename_i e; rw [Nat.beq_refl] at e; cases e
theorem aCmp_eq_t {ρ : Type} {o : ρ} {x y : Int32} {a b : Option ρ} (q : x = y) (h : aCmp .eq x y a b = some o) : a = some o := by
  unfold aCmp at h; dsimp only at h; rwa [if_pos q] at h
theorem aCmp_eq_f {ρ : Type} {o : ρ} {x y : Int32} {a b : Option ρ} (q : ¬ x = y) (h : aCmp .eq x y a b = some o) : b = some o := by
  unfold aCmp at h; dsimp only at h; rwa [if_neg q] at h
theorem aCmp_lt_t {ρ : Type} {o : ρ} {x y : Int32} {a b : Option ρ} (q : x < y) (h : aCmp .lt x y a b = some o) : a = some o := by
  unfold aCmp at h; dsimp only at h; rwa [if_pos q] at h
theorem aCmp_lt_f {ρ : Type} {o : ρ} {x y : Int32} {a b : Option ρ} (q : ¬ x < y) (h : aCmp .lt x y a b = some o) : b = some o := by
  unfold aCmp at h; dsimp only at h; rwa [if_neg q] at h
theorem aCmp_ge_t {ρ : Type} {o : ρ} {x y : Int32} {a b : Option ρ} (q : y ≤ x) (h : aCmp .ge x y a b = some o) : a = some o := by
  unfold aCmp at h; dsimp only at h; rwa [if_pos q] at h
theorem aCmp_ge_f {ρ : Type} {o : ρ} {x y : Int32} {a b : Option ρ} (q : ¬ y ≤ x) (h : aCmp .ge x y a b = some o) : b = some o := by
  unfold aCmp at h; dsimp only at h; rwa [if_neg q] at h
theorem aCmp_gt_t {ρ : Type} {o : ρ} {x y : Int32} {a b : Option ρ} (q : y < x) (h : aCmp .gt x y a b = some o) : a = some o := by
  unfold aCmp at h; dsimp only at h; rwa [if_pos q] at h
theorem aCmp_gt_f {ρ : Type} {o : ρ} {x y : Int32} {a b : Option ρ} (q : ¬ y < x) (h : aCmp .gt x y a b = some o) : b = some o := by
  unfold aCmp at h; dsimp only at h; rwa [if_neg q] at h
theorem aCmp_le_t {ρ : Type} {o : ρ} {x y : Int32} {a b : Option ρ} (q : x ≤ y) (h : aCmp .le x y a b = some o) : a = some o := by
  unfold aCmp at h; dsimp only at h; rwa [if_pos q] at h
theorem aCmp_le_f {ρ : Type} {o : ρ} {x y : Int32} {a b : Option ρ} (q : ¬ x ≤ y) (h : aCmp .le x y a b = some o) : b = some o := by
  unfold aCmp at h; dsimp only at h; rwa [if_neg q] at h
theorem aCmp_ne_t {ρ : Type} {o : ρ} {x y : Int32} {a b : Option ρ} (q : ¬ x = y) (h : aCmp .ne x y a b = some o) : a = some o := by
  unfold aCmp at h; dsimp only at h; rwa [if_neg q] at h
theorem aCmp_ne_f {ρ : Type} {o : ρ} {x y : Int32} {a b : Option ρ} (q : x = y) (h : aCmp .ne x y a b = some o) : b = some o := by
  unfold aCmp at h; dsimp only at h; rwa [if_pos q] at h
section AStep
variable {p : Program} {l : Launch} {e : Env} {R : Room} {s : State} {m : MethodId} {args : Array Value} {below : List Frame} {meth : Method} {c : Code} {H : Heap} {locs : List Loc} {cells slots : Nat} {Q : State → Prop}
variable {cc : ByteArray} {pc : Nat} {ls : Array Slot}
variable {N nL own : Nat} {kd : Nat → aKd} {mi : Nat → Nat × Nat × Bool × Option Nat} {D : va_G} {cl : List vw_C} {cn : Nat → String} {fn : Nat → Nat → String × String × String} {dA : Nat → ClassId} {ad : Nat → Nat} {B0 : Nat}
variable {stt : List (String × String × String × Value)} {strs : List (String × Nat × String × Nat)} {nst : List (String × Nat × MethodName × String)} {cst : List Cond} {WS : List Cond}
variable {fL pL : List (Nat × Nat × Nat × Nat)} {gL kL : List (Nat × Nat × Value)} {cL vL : List (Nat × Nat × Nat)} {yL : List (Nat × Nat)} {tL : List (Nat × Nat × Nat × Nat)}
variable {run : Nat → List Value → aH → Option (aRs × aH)} {rt : Option FieldType} {hd : Option (List (Nat × Nat × Nat))} {kl : List (Nat × List Nat)}
/-- the instruction that ends a method, and what it gives -/
def aRetOk (cc : ByteArray) (pc : Nat) (rt : Option FieldType) (v : Option Value) : Prop := match v with
  | none => decode cc pc = .ok (.return_, 1) ∧ rt = none
  | some (.int x) => decode cc pc = .ok (.ireturn, 1) ∧ ∃ ty, rt = some ty ∧ narrow ty (.int x) = .int x
  | some (.long _) => decode cc pc = .ok (.lreturn, 1) ∧ rt = some .long
  | _ => False
set_option maxHeartbeats 8000000 in
theorem aInsW (hx : p.tables.exec = Jvm.exec) (hb : c.code = cc) (hml : c.maxLocals = nL) (hown : s.vm.findClass (cn own) = some m.cls) (hts : ∀ w ∈ WS, w.before args s = true) (hK : va_K D cl (aTys dA) s) (hC : aCn kd fn stt strs nst cst ad B0 s s.heap)
    (hw1 : ∀ i t n, kd i = .inl (t, n) → i < N ∧ t < 4)
    (hw2 : ∀ i ci fl, kd i = .inr (.inl (ci, fl)) → i < N ∧ ∃ (C : String) (T : u_T), cl[ci]? = some (C, T, fl.length) ∧ ∀ k tag, fl[k]? = some (.inr tag) → parseFieldDescriptor (T k).2.2.1 = some (aFt tag))
    (hw3 : ∀ i ci nm vs, kd i = .inr (.inr (.inr (ci, nm, vs))) → cl[ci]? = none)
    (hw4 : ∀ (ci : Nat) (C : String) (T : u_T) (n : Nat), cl[ci]? = some (C, T, n) → (∃ ty0 : Nat → FieldType, ∀ k, k < n → parseFieldDescriptor (T k).2.2.1 = some (ty0 k)) ∧ (∀ a, a < n → ∀ b, b < n → a ≠ b → (T a).2.1 ≠ (T b).2.1) ∧ ∀ w ∈ u_ws C T n, w ∈ WS)
    (hD : ∀ σ, va_D (aA B0) (aWs N dA ad kd σ))
    (hfL : ∀ q ∈ fL, aFok cl cn fn WS q) (hpL : ∀ q ∈ pL, aPok cl cn WS q) (hgL : ∀ q ∈ gL, ∃ C n d, (C, n, d, q.2.2) ∈ stt ∧ Cond.fieldLink (cn q.1) q.2.1 C n d ∈ WS) (hkL : ∀ q ∈ kL, aKok cn strs WS q)
    (hyL : ∀ q ∈ yL, Cond.methodLink (cn q.1) q.2 arraycopyName ∈ WS ∧ Cond.native arraycopyName ∈ WS ∧ Cond.static arraycopyName ∈ WS ∧ Cond.initialized "java/lang/System" ∈ WS)
    (hRf : 1 ≤ R.frames) (hRl : 26 ≤ R.locals)
    {L : List (Option Value)} {S : List Value} {σ : aH} {im : Int32} {ns : List Nat} {cv : Value} {ins : Instr} {o : aSt ⊕ (aRs × aH)}
    (h1 : aCkD cc pc ins = true) (h2 : aCkX fL pL gL kL cL vL yL tL own cc pc im ns cv ins = true)
    (hL : aLr ad nL ls L) (hP : va_P D cl (aWs N dA ad kd σ) H) (hS : va_S (aA B0) s.heap H locs)
    (h : aIns kd mi run rt hd (fun r => some (.inr r)) (fun pc L S σ => some (.inl (pc, aDead kl pc L, S, σ))) pc L S σ im ns cv ins = some o)
    (hgo : ∀ pc' L' S' σ', o = .inl (pc', aDead kl pc' L', S', σ') → ∀ ls' H' locs', aLr ad nL ls' L' → va_P D cl (aWs N dA ad kd σ') H' → va_S (aA B0) s.heap H' locs' → W p l e R s m args below meth c H' locs' cells slots Q (F0 m pc' ls' (S'.map (aVm ad))))
    (hret : ∀ v, o = .inr (.inl v, σ) → S = v.toList → aRetOk cc pc rt v → W p l e R s m args below meth c H locs cells slots Q (F0 m pc ls (S.map (aVm ad))))
    (hthr : ∀ q k, q ∈ tL → q.1 = own → q.2.2.2 = k → hd = none → S = [] → o = .inr (.inr k, σ) → decode cc pc = .ok (.new q.2.1, 3) → decode cc (pc + 3) = .ok (.dup, 1) → decode cc (pc + 4) = .ok (.invokespecial q.2.2.1, 3) → decode cc (pc + 7) = .ok (.athrow, 1) → W p l e R s m args below meth c H locs cells slots Q (F0 m pc ls (S.map (aVm ad))))
    (hcv : ∀ i mid, (own, i, mid) ∈ vL → decode cc pc = .ok (.invokevirtual i, 3) → aCall kd mi run hd (fun r => some (.inr r)) (fun pc L S σ => some (.inl (pc, aDead kl pc L, S, σ))) pc L S σ mid = some o → W p l e R s m args below meth c H locs cells slots Q (F0 m pc ls (S.map (aVm ad))))
    (hcs : ∀ i mid, (own, i, mid) ∈ cL → decode cc pc = .ok (.invokestatic i, 3) → aCall kd mi run hd (fun r => some (.inr r)) (fun pc L S σ => some (.inl (pc, aDead kl pc L, S, σ))) pc L S σ mid = some o → W p l e R s m args below meth c H locs cells slots Q (F0 m pc ls (S.map (aVm ad)))) :
    W p l e R s m args below meth c H locs cells slots Q (F0 m pc ls (S.map (aVm ad))) := by
  cases ins
  case aload_n i =>
    obtain ⟨x, hi, h101⟩ := aLdR_some h
    exact lv_aload_n hx hb (aDc_eq h1) rfl (hL.at hi) (hgo _ _ _ _ (Option.some.inj h101).symm ls H locs hL hP hS)
  case iload_n i =>
    obtain ⟨x, hi, h102⟩ := aLdI_some h
    exact lv_iload_n hx hb (aDc_eq h1) rfl (hL.at hi) (hgo _ _ _ _ (Option.some.inj h102).symm ls H locs hL hP hS)
  case lload_n i =>
    obtain ⟨x, hi, h103⟩ := aLdL_some h
    exact lv_lload_n hx hb (aDc_eq h1) rfl (hL.at hi) (hgo _ _ _ _ (Option.some.inj h103).symm ls H locs hL hP hS)
  case aload i =>
    obtain ⟨x, hi, h104⟩ := aLdR_some h
    exact lv_aload hx hb (aDc_eq h1) (hL.at hi) (hgo _ _ _ _ (Option.some.inj h104).symm ls H locs hL hP hS)
  case iload i =>
    obtain ⟨x, hi, h105⟩ := aLdI_some h
    exact lv_iload hx hb (aDc_eq h1) (hL.at hi) (hgo _ _ _ _ (Option.some.inj h105).symm ls H locs hL hP hS)
  case lload i =>
    obtain ⟨x, hi, h106⟩ := aLdL_some h
    exact lv_lload hx hb (aDc_eq h1) (hL.at hi) (hgo _ _ _ _ (Option.some.inj h106).symm ls H locs hL hP hS)
  case istore_n i =>
    obtain ⟨x, S1, rfl, h107⟩ := aPI_some h
    obtain ⟨hi, h108⟩ := aIf_some h107
    obtain ⟨hlen, lv, hlv, hmem⟩ := hL
    rw [hlen] at hi
    exact lv_istore_n hx hb (aDc_eq h1) rfl hlv hi rfl (fun ls' h' => hgo _ _ _ _ (Option.some.inj h108).symm ls' H locs (aLr_st1 hlen hmem h') hP hS)
  case astore_n i =>
    obtain ⟨x, S1, rfl, h109⟩ := aPR_some h
    obtain ⟨hi, h110⟩ := aIf_some h109
    obtain ⟨hlen, lv, hlv, hmem⟩ := hL
    rw [hlen] at hi
    exact lv_astore_n hx hb (aDc_eq h1) rfl hlv hi rfl (fun ls' h' => hgo _ _ _ _ (Option.some.inj h110).symm ls' H locs (aLr_st1 hlen hmem h') hP hS)
  case lstore_n i =>
    obtain ⟨x, S1, rfl, h111⟩ := aPL_some h
    obtain ⟨hi, h112⟩ := aIf_some h111
    obtain ⟨hlen, lv, hlv, hmem⟩ := hL
    rw [hlen] at hi
    exact lv_lstore_n hx hb (aDc_eq h1) rfl hlv hi rfl (fun ls' h' => hgo _ _ _ _ (Option.some.inj h112).symm ls' H locs (aLr_st2 hlen hmem h') hP hS)
  case istore i =>
    obtain ⟨x, S1, rfl, h113⟩ := aPI_some h
    obtain ⟨hi, h114⟩ := aIf_some h113
    obtain ⟨hlen, lv, hlv, hmem⟩ := hL
    rw [hlen] at hi
    exact lv_istore hx hb (aDc_eq h1) hlv hi rfl (fun ls' h' => hgo _ _ _ _ (Option.some.inj h114).symm ls' H locs (aLr_st1 hlen hmem h') hP hS)
  case astore i =>
    obtain ⟨x, S1, rfl, h115⟩ := aPR_some h
    obtain ⟨hi, h116⟩ := aIf_some h115
    obtain ⟨hlen, lv, hlv, hmem⟩ := hL
    rw [hlen] at hi
    exact lv_astore hx hb (aDc_eq h1) hlv hi rfl (fun ls' h' => hgo _ _ _ _ (Option.some.inj h116).symm ls' H locs (aLr_st1 hlen hmem h') hP hS)
  case lstore i =>
    obtain ⟨x, S1, rfl, h117⟩ := aPL_some h
    obtain ⟨hi, h118⟩ := aIf_some h117
    obtain ⟨hlen, lv, hlv, hmem⟩ := hL
    rw [hlen] at hi
    exact lv_lstore hx hb (aDc_eq h1) hlv hi rfl (fun ls' h' => hgo _ _ _ _ (Option.some.inj h118).symm ls' H locs (aLr_st2 hlen hmem h') hP hS)
  case iinc i n =>
    obtain ⟨x, hi, h119⟩ := aLdI_some h
    obtain ⟨hn, h120⟩ := aIf_some h119
    obtain ⟨hlen, lv, hlv, hmem⟩ := hL
    rw [hlen] at hn
    obtain ⟨k, hk⟩ := List.getElem?_of_mem (hmem _ _ hi)
    have hv : Int32.ofInt n = im := of_decide_eq_true h2
    exact lv_iinc hx hb (aDc_eq h1) hlv hk (by rw [hv]) hn rfl (fun ls' h' => hgo _ _ _ _ (Option.some.inj h120).symm ls' H locs (aLr_st1 hlen hmem h') hP hS)
  case iconst n =>
    have hv : Int32.ofInt n = im := of_decide_eq_true h2
    exact lv_iconst hx hb (aDc_eq h1) hv (hgo _ _ _ _ (Option.some.inj h).symm ls H locs hL hP hS)
  case bipush n =>
    have hv : (Int8.ofInt n).toInt32 = im := of_decide_eq_true h2
    exact lv_bipush hx hb (aDc_eq h1) hv (hgo _ _ _ _ (Option.some.inj h).symm ls H locs hL hP hS)
  case sipush n =>
    have hv : (Int16.ofInt n).toInt32 = im := of_decide_eq_true h2
    exact lv_sipush hx hb (aDc_eq h1) hv (hgo _ _ _ _ (Option.some.inj h).symm ls H locs hL hP hS)
  case lconst n =>
    have hv : cv = .long (Int64.ofNat n.val) := of_decide_eq_true h2
    subst hv
    exact lv_lconst hx hb (aDc_eq h1) rfl (hgo _ _ _ _ (Option.some.inj h).symm ls H locs hL hP hS)
  case iadd =>
    obtain ⟨x, y, S1, rfl, h121⟩ := aPII_some h
    exact lv_iadd hx hb (aDc_eq h1) (hgo _ _ _ _ (Option.some.inj h121).symm ls H locs hL hP hS)
  case isub =>
    obtain ⟨x, y, S1, rfl, h122⟩ := aPII_some h
    exact lv_isub hx hb (aDc_eq h1) (hgo _ _ _ _ (Option.some.inj h122).symm ls H locs hL hP hS)
  case imul =>
    obtain ⟨x, y, S1, rfl, h123⟩ := aPII_some h
    exact lv_imul hx hb (aDc_eq h1) (hgo _ _ _ _ (Option.some.inj h123).symm ls H locs hL hP hS)
  case iand =>
    obtain ⟨x, y, S1, rfl, h124⟩ := aPII_some h
    exact lv_iand hx hb (aDc_eq h1) (hgo _ _ _ _ (Option.some.inj h124).symm ls H locs hL hP hS)
  case ior =>
    obtain ⟨x, y, S1, rfl, h125⟩ := aPII_some h
    exact lv_ior hx hb (aDc_eq h1) (hgo _ _ _ _ (Option.some.inj h125).symm ls H locs hL hP hS)
  case ishl =>
    obtain ⟨x, y, S1, rfl, h126⟩ := aPII_some h
    exact lv_ishl hx hb (aDc_eq h1) (hgo _ _ _ _ (Option.some.inj h126).symm ls H locs hL hP hS)
  case ishr =>
    obtain ⟨x, y, S1, rfl, h127⟩ := aPII_some h
    exact lv_ishr hx hb (aDc_eq h1) (hgo _ _ _ _ (Option.some.inj h127).symm ls H locs hL hP hS)
  case iushr =>
    obtain ⟨x, y, S1, rfl, h128⟩ := aPII_some h
    exact lv_iushr hx hb (aDc_eq h1) rfl (hgo _ _ _ _ (Option.some.inj h128).symm ls H locs hL hP hS)
  case idiv =>
    obtain ⟨x, y, S1, rfl, h129⟩ := aPII_some h
    obtain ⟨hy, h130⟩ := aNz_some h129
    exact lv_idiv hx hb (aDc_eq h1) hy (hgo _ _ _ _ (Option.some.inj h130).symm ls H locs hL hP hS)
  case irem =>
    obtain ⟨x, y, S1, rfl, h131⟩ := aPII_some h
    obtain ⟨hy, h132⟩ := aNz_some h131
    exact lv_irem hx hb (aDc_eq h1) hy (hgo _ _ _ _ (Option.some.inj h132).symm ls H locs hL hP hS)
  case ladd =>
    obtain ⟨x, y, S1, rfl, h133⟩ := aPLL_some h
    exact lv_ladd hx hb (aDc_eq h1) (hgo _ _ _ _ (Option.some.inj h133).symm ls H locs hL hP hS)
  case lsub =>
    obtain ⟨x, y, S1, rfl, h134⟩ := aPLL_some h
    exact lv_lsub hx hb (aDc_eq h1) (hgo _ _ _ _ (Option.some.inj h134).symm ls H locs hL hP hS)
  case lmul =>
    obtain ⟨x, y, S1, rfl, h135⟩ := aPLL_some h
    exact lv_lmul hx hb (aDc_eq h1) (hgo _ _ _ _ (Option.some.inj h135).symm ls H locs hL hP hS)
  case lor =>
    obtain ⟨x, y, S1, rfl, h136⟩ := aPLL_some h
    exact lv_lor hx hb (aDc_eq h1) (hgo _ _ _ _ (Option.some.inj h136).symm ls H locs hL hP hS)
  case lxor =>
    obtain ⟨x, y, S1, rfl, h137⟩ := aPLL_some h
    exact lv_lxor hx hb (aDc_eq h1) (hgo _ _ _ _ (Option.some.inj h137).symm ls H locs hL hP hS)
  case lcmp =>
    obtain ⟨x, y, S1, rfl, h138⟩ := aPLL_some h
    exact W.lcmp hx hb (aDc_eq h1) (hgo _ _ _ _ (Option.some.inj h138).symm ls H locs hL hP hS)
  case ldiv =>
    obtain ⟨x, y, S1, rfl, h139⟩ := aPLL_some h
    obtain ⟨hy, h140⟩ := aNzL_some h139
    exact lv_ldiv hx hb (aDc_eq h1) hy (hgo _ _ _ _ (Option.some.inj h140).symm ls H locs hL hP hS)
  case lrem =>
    obtain ⟨x, y, S1, rfl, h141⟩ := aPLL_some h
    obtain ⟨hy, h142⟩ := aNzL_some h141
    exact lv_lrem hx hb (aDc_eq h1) hy (hgo _ _ _ _ (Option.some.inj h142).symm ls H locs hL hP hS)
  case lshl =>
    obtain ⟨y, S1, rfl, h143⟩ := aPI_some h
    obtain ⟨x, S2, rfl, h144⟩ := aPL_some h143
    exact lv_lshl hx hb (aDc_eq h1) rfl (hgo _ _ _ _ (Option.some.inj h144).symm ls H locs hL hP hS)
  case ineg =>
    obtain ⟨x, S1, rfl, h145⟩ := aPI_some h
    exact lv_ineg hx hb (aDc_eq h1) (hgo _ _ _ _ (Option.some.inj h145).symm ls H locs hL hP hS)
  case i2l =>
    obtain ⟨x, S1, rfl, h146⟩ := aPI_some h
    exact lv_i2l hx hb (aDc_eq h1) rfl (hgo _ _ _ _ (Option.some.inj h146).symm ls H locs hL hP hS)
  case l2i =>
    obtain ⟨x, S1, rfl, h147⟩ := aPL_some h
    exact lv_l2i hx hb (aDc_eq h1) rfl (hgo _ _ _ _ (Option.some.inj h147).symm ls H locs hL hP hS)
  case i2c =>
    obtain ⟨x, S1, rfl, h148⟩ := aPI_some h
    exact lv_i2c hx hb (aDc_eq h1) rfl (hgo _ _ _ _ (Option.some.inj h148).symm ls H locs hL hP hS)
  case i2b =>
    obtain ⟨x, S1, rfl, h149⟩ := aPI_some h
    exact lv_i2b hx hb (aDc_eq h1) rfl (hgo _ _ _ _ (Option.some.inj h149).symm ls H locs hL hP hS)
  case dup =>
    obtain ⟨v, S1, rfl, h150⟩ := aPV_some h
    obtain ⟨hv, h151⟩ := aIf_some h150
    exact lv_dup hx hb (aDc_eq h1) ((aVm_cat ad v).trans hv) (hgo _ _ _ _ (Option.some.inj h151).symm ls H locs hL hP hS)
  case pop =>
    obtain ⟨v, S1, rfl, h152⟩ := aPV_some h
    obtain ⟨hv, h153⟩ := aIf_some h152
    exact lv_pop hx hb (aDc_eq h1) ((aVm_cat ad v).trans hv) (hgo _ _ _ _ (Option.some.inj h153).symm ls H locs hL hP hS)
  case dup2 =>
    obtain ⟨v, S1, rfl, h154⟩ := aPV_some h
    obtain ⟨w, S2, rfl, h155⟩ := aPV_some h154
    obtain ⟨hv, h156⟩ := aIf_some h155
    exact lv_dup2_11 hx hb (aDc_eq h1) ((aVm_cat ad v).trans hv.1) ((aVm_cat ad w).trans hv.2) (hgo _ _ _ _ (Option.some.inj h156).symm ls H locs hL hP hS)
  case goto off =>
    obtain ⟨t, rfl, h157⟩ := aOne_some h
    have ht : (pc : Int) + off = (t : Int) := of_decide_eq_true h2
    exact lv_goto hx hb (aDc_eq h1) ht (hgo _ _ _ _ (Option.some.inj h157).symm ls H locs hL hP hS)
  case if_icmp cd off =>
    obtain ⟨t, rfl, h158⟩ := aOne_some h
    obtain ⟨x, y, S1, rfl, h159⟩ := aPII_some h158
    have ht : (pc : Int) + off = (t : Int) := of_decide_eq_true h2
    cases cd
    case eq =>
      exact lv_icmp_eq hx hb (aDc_eq h1) ht (fun q => hgo _ _ _ _ (Option.some.inj (aCmp_eq_t q h159)).symm ls H locs hL hP hS) (fun q => hgo _ _ _ _ (Option.some.inj (aCmp_eq_f q h159)).symm ls H locs hL hP hS)
    case ne =>
      exact lv_icmp_ne hx hb (aDc_eq h1) ht (fun q => hgo _ _ _ _ (Option.some.inj (aCmp_ne_t q h159)).symm ls H locs hL hP hS) (fun q => hgo _ _ _ _ (Option.some.inj (aCmp_ne_f q h159)).symm ls H locs hL hP hS)
    case lt =>
      exact lv_icmp_lt hx hb (aDc_eq h1) ht (fun q => hgo _ _ _ _ (Option.some.inj (aCmp_lt_t q h159)).symm ls H locs hL hP hS) (fun q => hgo _ _ _ _ (Option.some.inj (aCmp_lt_f q h159)).symm ls H locs hL hP hS)
    case ge =>
      exact lv_icmp_ge hx hb (aDc_eq h1) ht (fun q => hgo _ _ _ _ (Option.some.inj (aCmp_ge_t q h159)).symm ls H locs hL hP hS) (fun q => hgo _ _ _ _ (Option.some.inj (aCmp_ge_f q h159)).symm ls H locs hL hP hS)
    case gt =>
      exact lv_icmp_gt hx hb (aDc_eq h1) ht (fun q => hgo _ _ _ _ (Option.some.inj (aCmp_gt_t q h159)).symm ls H locs hL hP hS) (fun q => hgo _ _ _ _ (Option.some.inj (aCmp_gt_f q h159)).symm ls H locs hL hP hS)
    case le =>
      exact lv_icmp_le hx hb (aDc_eq h1) ht (fun q => hgo _ _ _ _ (Option.some.inj (aCmp_le_t q h159)).symm ls H locs hL hP hS) (fun q => hgo _ _ _ _ (Option.some.inj (aCmp_le_f q h159)).symm ls H locs hL hP hS)
  case ifCond cd off =>
    obtain ⟨t, rfl, h160⟩ := aOne_some h
    obtain ⟨x, S1, rfl, h161⟩ := aPI_some h160
    have ht : (pc : Int) + off = (t : Int) := of_decide_eq_true h2
    cases cd
    case eq =>
      exact lv_if_eq hx hb (aDc_eq h1) ht (fun q => hgo _ _ _ _ (Option.some.inj (aCmp_eq_t q h161)).symm ls H locs hL hP hS) (fun q => hgo _ _ _ _ (Option.some.inj (aCmp_eq_f q h161)).symm ls H locs hL hP hS)
    case ne =>
      exact lv_if_ne hx hb (aDc_eq h1) ht (fun q => hgo _ _ _ _ (Option.some.inj (aCmp_ne_t q h161)).symm ls H locs hL hP hS) (fun q => hgo _ _ _ _ (Option.some.inj (aCmp_ne_f q h161)).symm ls H locs hL hP hS)
    case lt =>
      exact lv_if_lt hx hb (aDc_eq h1) ht (fun q => hgo _ _ _ _ (Option.some.inj (aCmp_lt_t q h161)).symm ls H locs hL hP hS) (fun q => hgo _ _ _ _ (Option.some.inj (aCmp_lt_f q h161)).symm ls H locs hL hP hS)
    case ge =>
      exact lv_if_ge hx hb (aDc_eq h1) ht (fun q => hgo _ _ _ _ (Option.some.inj (aCmp_ge_t q h161)).symm ls H locs hL hP hS) (fun q => hgo _ _ _ _ (Option.some.inj (aCmp_ge_f q h161)).symm ls H locs hL hP hS)
    case gt =>
      exact lv_if_gt hx hb (aDc_eq h1) ht (fun q => hgo _ _ _ _ (Option.some.inj (aCmp_gt_t q h161)).symm ls H locs hL hP hS) (fun q => hgo _ _ _ _ (Option.some.inj (aCmp_gt_f q h161)).symm ls H locs hL hP hS)
    case le =>
      exact lv_if_le hx hb (aDc_eq h1) ht (fun q => hgo _ _ _ _ (Option.some.inj (aCmp_le_t q h161)).symm ls H locs hL hP hS) (fun q => hgo _ _ _ _ (Option.some.inj (aCmp_le_f q h161)).symm ls H locs hL hP hS)
  case tableswitch d lo hi offs =>
    obtain ⟨dt, ts, rfl, h162⟩ := aDf_some h
    obtain ⟨x, S1, rfl, h163⟩ := aPI_some h162
    have h2' := (Bool.and_eq_true _ _).mp (show (decide ((pc : Int) + d = (dt : Int)) && aSwOk pc im lo hi offs ts) = true from h2)
    have hd : (pc : Int) + d = (dt : Int) := of_decide_eq_true h2'.1
    obtain ⟨hn, hk⟩ := aSwOk_spec h2'.2
    obtain ⟨len, hdg⟩ : ∃ len, decode cc pc = .ok (.tableswitch d lo hi offs, len) := by
      have h1' : (match decode cc pc with
        | .ok (i, _) => decide (i = .tableswitch d lo hi offs)
        | .error _ => false) = true := h1
      split at h1'
      · rename_i i n e
        exact ⟨n, by rw [e, of_decide_eq_true h1']⟩
      · cases h1'
    rcases aSw_some h163 with ⟨k, t, e1, e2, h163⟩ | ⟨e1, h163⟩
    · have hlt : k < ts.length := (List.getElem?_eq_some_iff.mp e1).1
      obtain ⟨ek, off, t', eo, et, eq⟩ := hk k hlt
      cases et.symm.trans e1
      have ex : x.toInt = lo + k := by rw [e2]; exact ek
      exact lv_tableIn hx hb hdg (by omega) (by omega) (off := off) (by rw [ex, show (lo + (k : Int) - lo).toNat = k by omega]; exact eo) eq (hgo _ _ _ _ (Option.some.inj h163).symm ls H locs hL hP hS)
    · refine lv_tableOut hx hb hdg ?_ hd (hgo _ _ _ _ (Option.some.inj h163).symm ls H locs hL hP hS)
      rcases Int.lt_or_le x.toInt lo with q | q
      · exact Or.inl q
      · rcases Int.lt_or_le hi x.toInt with q2 | q2
        · exact Or.inr q2
        · exfalso
          have hlt : (x.toInt - lo).toNat < ts.length := by omega
          refine e1 _ hlt (Int32.toInt_inj.mp ?_)
          rw [(hk _ hlt).1]
          omega
  case ldc i =>
    have h2' := (Bool.and_eq_true _ _).mp h2
    have hq := hkL _ (of_decide_eq_true h2'.1)
    cases cv with
    | int v => exact lv_ldc hx hb hown (hts _ hq) (aDc_eq h1) (hgo _ _ _ _ (Option.some.inj h).symm ls H locs hL hP hS)
    | ref v =>
      obtain ⟨tx, hq⟩ := hq
      exact va_ldcS hx hb hown (hC.2.2.2.1 _ hq) (aDc_eq h1) (hgo _ _ _ _ (Option.some.inj h).symm ls H locs hL hP hS)
    | long v => exact Bool.noConfusion h2'.2
    | float v => exact Bool.noConfusion h2'.2
    | double v => exact Bool.noConfusion h2'.2
    | null => exact Bool.noConfusion h2'.2
    | retAddr v => exact Bool.noConfusion h2'.2
  case ldc_w i =>
    have h2' := (Bool.and_eq_true _ _).mp h2
    have hq := hkL _ (of_decide_eq_true h2'.1)
    cases cv with
    | int v => exact lv_ldcw hx hb hown (hts _ hq) (aDc_eq h1) (hgo _ _ _ _ (Option.some.inj h).symm ls H locs hL hP hS)
    | ref v => exact Bool.noConfusion h2'.2
    | long v => exact Bool.noConfusion h2'.2
    | float v => exact Bool.noConfusion h2'.2
    | double v => exact Bool.noConfusion h2'.2
    | null => exact Bool.noConfusion h2'.2
    | retAddr v => exact Bool.noConfusion h2'.2
  case ldc2_w i =>
    have h2' := (Bool.and_eq_true _ _).mp h2
    have hq := hkL _ (of_decide_eq_true h2'.1)
    cases cv with
    | long v => exact lv_ldc2 hx hb hown (hts _ hq) (aDc_eq h1) (hgo _ _ _ _ (Option.some.inj h).symm ls H locs hL hP hS)
    | ref v => exact Bool.noConfusion h2'.2
    | int v => exact Bool.noConfusion h2'.2
    | float v => exact Bool.noConfusion h2'.2
    | double v => exact Bool.noConfusion h2'.2
    | null => exact Bool.noConfusion h2'.2
    | retAddr v => exact Bool.noConfusion h2'.2
  case getstatic i =>
    obtain ⟨C, n, d, hq, hw⟩ := hgL _ (of_decide_eq_true h2)
    exact va_gets hx hb (hC.2.2.1 _ hq) hS hown (hts _ hw) (fun _ z => z) (aDc_eq h1) (hgo _ _ _ _ (Option.some.inj h).symm ls H locs hL hP hS)
  case getfield i =>
    obtain ⟨ci, k, rfl, h164⟩ := aTwo_some h
    obtain ⟨b, S1, rfl, h165⟩ := aPR_some h164
    have hq := hfL _ (of_decide_eq_true h2)
    rcases aGet_some h165 with ⟨fl, t, hk, ht, h165⟩ | ⟨nm, vs, v, hk, hv, h165⟩
    · obtain ⟨hbN, C, T, hcl, -⟩ := hw2 _ _ _ hk
      unfold aFok at hq
      dsimp only at hq
      rw [hcl] at hq
      obtain ⟨hkn, hlk⟩ := hq
      obtain ⟨-, -, huw⟩ := hw4 _ _ _ _ hcl
      refine va_get hx hb hts huw hown hK hP b (fs := fl.mapIdx (aFv ad σ b)) (by rw [aWs_get hbN, aEl_obj hk]) hcl k hkn (hts _ hlk) (fun _ z => z) (v := aFv ad σ b k t) (by rw [List.getElem?_mapIdx, ht]; rfl) (aDc_eq h1) ?_
      have := hgo _ _ _ _ (Option.some.inj h165).symm ls H locs hL hP hS
      rw [← aVm_Fval]
      exact this
    · have hcl := hw3 _ _ _ _ hk
      unfold aFok at hq
      dsimp only at hq
      rw [hcl] at hq
      exact vk_getf hx hb ((hC.2.1 _ _ _ _ hk).2 _ _ hv) hS hown (hts _ hq) (fun _ z => z) (aDc_eq h1) (hgo _ _ _ _ (Option.some.inj h165).symm ls H locs hL hP hS)
  case putfield i =>
    obtain ⟨ci, k, rfl, h166⟩ := aTwo_some h
    obtain ⟨v, S1, rfl, h167⟩ := aPV_some h166
    obtain ⟨b, S2, rfl, h168⟩ := aPR_some h167
    have hq := hpL _ (of_decide_eq_true h2)
    obtain ⟨fl, hk, h169⟩ := aPut_some h168
    obtain ⟨hbN, C, T, hcl, hft⟩ := hw2 _ _ _ hk
    unfold aPok at hq
    dsimp only at hq
    rw [hcl] at hq
    obtain ⟨hkn, hlk, hfin⟩ := hq
    obtain ⟨⟨ty0, hty⟩, hnm, huw⟩ := hw4 _ _ _ _ hcl
    have key : ∀ (tag : Nat) (w : Value) (σ' : aH), fl[k]? = some (.inr tag) → aVm ad v = w → narrow (aFt tag) w = w → fits (aFt tag) w = true → (fl.mapIdx (aFv ad σ b)).set k w = fl.mapIdx (aFv ad σ' b) → (∀ j, j ≠ b → aEl dA ad kd σ j = aEl dA ad kd σ' j) → (∀ H' locs', va_P D cl (aWs N dA ad kd σ') H' → va_S (aA B0) s.heap H' locs' → W p l e R s m args below meth c H' locs' cells slots Q (F0 m (pc + 3) ls (S2.map (aVm ad)))) → W p l e R s m args below meth c H locs cells slots Q (F0 m pc ls ((v :: .ref b :: S2).map (aVm ad))) := by
      intro tag w σ' htag hvw hnar hfit hset hoth hk2
      have hpar := hft _ _ htag
      refine va_put hx hb hts huw ty0 hty hnm hown hK hP (hD σ) hS b (fs := fl.mapIdx (aFv ad σ b)) (by rw [aWs_get hbN, aEl_obj hk]) hcl k hkn (hts _ hlk) (fun _ z => z) hfin hpar (by rw [hvw]; exact hnar) (by rw [hvw]; exact hfit) (by rw [List.length_mapIdx]; exact hkn) (aDc_eq h1) (fun H1 locs1 hP1 _ hS1 => ?_)
      refine hk2 H1 locs1 ?_ hS1
      rw [hvw, hset] at hP1
      rwa [aWs_set (N := N) (dA := dA) (ad := ad) (kd := kd) (σ := σ) (σ' := σ') (aEl_obj hk).symm hoth] at hP1
    rcases h169 with ⟨x, htag, rfl, h169⟩ | ⟨x, htag, rfl, h169⟩ | ⟨x, htag, rfl, hnar, h169⟩
    · exact key 0 (.int x) (aSI σ b k x) htag rfl rfl rfl (aFs_setI htag (by decide)) (fun j hj => aEl_cong (aSI_ne hj).symm rfl) (fun H' locs' hP' hS' => hgo _ _ _ _ (Option.some.inj h169).symm ls H' locs' hL hP' hS')
    · exact key 1 (.long x) (aSL σ b k x) htag rfl rfl rfl (aFs_setL htag) (fun j hj => aEl_cong rfl (aSL_ne hj).symm) (fun H' locs' hP' hS' => hgo _ _ _ _ (Option.some.inj h169).symm ls H' locs' hL hP' hS')
    · exact key 2 (.int x) (aSI σ b k x) htag rfl (aNar_bool x hnar) (aFits_bool hnar) (aFs_setI htag (by decide)) (fun j hj => aEl_cong (aSI_ne hj).symm rfl) (fun H' locs' hP' hS' => hgo _ _ _ _ (Option.some.inj h169).symm ls H' locs' hL hP' hS')
  case iaload =>
    obtain ⟨i, S1, rfl, h170⟩ := aPI_some h
    obtain ⟨a, S2, rfl, h171⟩ := aPR_some h170
    obtain ⟨n, ⟨hk, h172⟩ | ⟨g, hk, h172⟩⟩ := aArr_some h171
    · obtain ⟨hin, h173⟩ := aIx_some h172
      exact va_iald hx hb hK hP a 0 (by rw [aWs_get (hw1 _ _ _ hk).1, aEl_arr hk (by decide)]) rfl hin (aDc_eq h1) (hgo _ _ _ _ (Option.some.inj h173).symm ls H locs hL hP hS)
    · obtain ⟨hin, h174⟩ := aIx_some h172
      exact va_ti hx hb (hC.1 _ _ _ _ hk (by decide)) hS hin rfl (aDc_eq h1) (hgo _ _ _ _ (Option.some.inj h174).symm ls H locs hL hP hS)
  case baload =>
    obtain ⟨i, S1, rfl, h175⟩ := aPI_some h
    obtain ⟨a, S2, rfl, h176⟩ := aPR_some h175
    obtain ⟨n, ⟨hk, h177⟩ | ⟨hk, h177⟩ | ⟨g, hk, h177⟩⟩ := aArB_some h176
    · obtain ⟨hin, h178⟩ := aIx_some h177
      exact va_bald hx hb hK hP a 1 (by rw [aWs_get (hw1 _ _ _ hk).1, aEl_arr hk (by decide)]) rfl hin (aDc_eq h1) (hgo _ _ _ _ (Option.some.inj h178).symm ls H locs hL hP hS)
    · obtain ⟨hin, h179⟩ := aIx_some h177
      exact va_zald hx hb hK hP a 2 (by rw [aWs_get (hw1 _ _ _ hk).1, aEl_arr hk (by decide)]) rfl hin (aDc_eq h1) (hgo _ _ _ _ (Option.some.inj h179).symm ls H locs hL hP hS)
    · obtain ⟨hin, h180⟩ := aIx_some h177
      exact va_tb hx hb (hC.1 _ _ _ _ hk (by decide)) hS hin rfl (aDc_eq h1) (hgo _ _ _ _ (Option.some.inj h180).symm ls H locs hL hP hS)
  case laload =>
    obtain ⟨i, S1, rfl, h181⟩ := aPI_some h
    obtain ⟨a, S2, rfl, h182⟩ := aPR_some h181
    obtain ⟨n, hk, h183⟩ := aArL_some h182
    obtain ⟨hin, h184⟩ := aIx_some h183
    exact va_lald hx hb hK hP a 3 (by rw [aWs_get (hw1 _ _ _ hk).1, aEl_lng hk]) rfl hin (aDc_eq h1) (hgo _ _ _ _ (Option.some.inj h184).symm ls H locs hL hP hS)
  case iastore =>
    obtain ⟨x, S0, rfl, h185⟩ := aPI_some h
    obtain ⟨i, S1, rfl, h186⟩ := aPI_some h185
    obtain ⟨a, S2, rfl, h187⟩ := aPR_some h186
    obtain ⟨n, hk, h188⟩ := aArS_some h187
    obtain ⟨hin, h189⟩ := aIx_some h188
    refine va_iast hx hb hK hP (hD σ) hS a 0 (by rw [aWs_get (hw1 _ _ _ hk).1, aEl_arr hk (by decide)]) rfl hin (aDc_eq h1) (fun H1 locs1 hP1 _ hS1 => ?_)
    rw [aWs_set (N := N) (dA := dA) (ad := ad) (kd := kd) (σ := σ) (σ' := aSI σ a i.toNatClampNeg (x)) (by rw [aEl_arr hk (by decide), aSI_eq]) (fun j hj => aEl_cong (aSI_ne hj).symm rfl)] at hP1
    exact hgo _ _ _ _ (Option.some.inj h189).symm ls H1 locs1 hL hP1 hS1
  case bastore =>
    obtain ⟨x, S0, rfl, k1⟩ := aPI_some h
    obtain ⟨i, S1, rfl, k2⟩ := aPI_some k1
    obtain ⟨a, S2, rfl, k3⟩ := aPR_some k2
    obtain ⟨t, rfl, k4⟩ := aOne_some k3
    rcases aBst_some k4 with ⟨rfl, k5⟩ | ⟨rfl, k5⟩
    · obtain ⟨n, hk, k6⟩ := aArS_some k5
      obtain ⟨hin, k7⟩ := aIx_some k6
      refine va_bast hx hb hK hP (hD σ) hS a 1 (by rw [aWs_get (hw1 _ _ _ hk).1, aEl_arr hk (by decide)]) rfl hin (aDc_eq h1) (fun H1 locs1 hP1 _ hS1 => ?_)
      rw [aWs_set (N := N) (dA := dA) (ad := ad) (kd := kd) (σ := σ) (σ' := aSI σ a i.toNatClampNeg (vp_nar .byte x)) (by rw [aEl_arr hk (by decide), aSI_eq]) (fun j hj => aEl_cong (aSI_ne hj).symm rfl)] at hP1
      exact hgo _ _ _ _ (Option.some.inj k7).symm ls H1 locs1 hL hP1 hS1
    · obtain ⟨n, hk, k6⟩ := aArS_some k5
      obtain ⟨hin, k7⟩ := aIx_some k6
      refine va_zast hx hb hK hP (hD σ) hS a 2 (by rw [aWs_get (hw1 _ _ _ hk).1, aEl_arr hk (by decide)]) rfl hin (aDc_eq h1) (fun H1 locs1 hP1 _ hS1 => ?_)
      rw [aWs_set (N := N) (dA := dA) (ad := ad) (kd := kd) (σ := σ) (σ' := aSI σ a i.toNatClampNeg (vp_nar .boolean x)) (by rw [aEl_arr hk (by decide), aSI_eq]) (fun j hj => aEl_cong (aSI_ne hj).symm rfl)] at hP1
      exact hgo _ _ _ _ (Option.some.inj k7).symm ls H1 locs1 hL hP1 hS1
  case lastore =>
    obtain ⟨x, S0, rfl, h198⟩ := aPL_some h
    obtain ⟨i, S1, rfl, h199⟩ := aPI_some h198
    obtain ⟨a, S2, rfl, h200⟩ := aPR_some h199
    obtain ⟨n, hk, h201⟩ := aArS_some h200
    obtain ⟨hin, h202⟩ := aIx_some h201
    refine va_last hx hb hK hP (hD σ) hS a 3 (by rw [aWs_get (hw1 _ _ _ hk).1, aEl_lng hk]) rfl hin (aDc_eq h1) (fun H1 locs1 hP1 _ hS1 => ?_)
    rw [aWs_set (N := N) (dA := dA) (ad := ad) (kd := kd) (σ := σ) (σ' := aSL σ a i.toNatClampNeg x) (by rw [aEl_lng hk, aSL_eq]) (fun j hj => aEl_cong rfl (aSL_ne hj).symm)] at hP1
    exact hgo _ _ _ _ (Option.some.inj h202).symm ls H1 locs1 hL hP1 hS1
  case arraylength =>
    obtain ⟨a, S2, rfl, h203⟩ := aPR_some h
    obtain ⟨t, n, hk | ⟨g, ht4, hk⟩, h204⟩ := aLen_some h203
    · obtain ⟨hN, ht4⟩ := hw1 _ _ _ hk
      by_cases e : t = 3
      · subst e
        exact va_alen hx hb hK hP a 3 (x := (n, .inr (.inl (σ.2 a)))) (by rw [aWs_get hN, aEl_lng hk]) rfl rfl (aDc_eq h1) (hgo _ _ _ _ (Option.some.inj h204).symm ls H locs hL hP hS)
      · have htt : (aTys dA)[t]? = some (dA t, aTy t) := by
          rcases (show t = 0 ∨ t = 1 ∨ t = 2 by omega) with rfl | rfl | rfl <;> rfl
        exact va_alen hx hb hK hP a t (x := (n, .inl (σ.1 a))) (by rw [aWs_get hN, aEl_arr hk e]) htt rfl (aDc_eq h1) (hgo _ _ _ _ (Option.some.inj h204).symm ls H locs hL hP hS)
    · exact va_tlen hx hb (hC.1 _ _ _ _ hk ht4) hS rfl (aDc_eq h1) (hgo _ _ _ _ (Option.some.inj h204).symm ls H locs hL hP hS)
  case ireturn =>
    obtain ⟨x, ty, rfl, rfl, hn, k1⟩ := aRetI_some h
    exact hret (some (.int x)) (Option.some.inj k1).symm rfl ⟨aDc_eq h1, ty, rfl, hn⟩
  case lreturn =>
    obtain ⟨x, rfl, rfl, k1⟩ := aRetL_some h
    exact hret (some (.long x)) (Option.some.inj k1).symm rfl ⟨aDc_eq h1, rfl⟩
  case return_ =>
    obtain ⟨rfl, rfl, k1⟩ := aRetV_some h
    exact hret none (Option.some.inj k1).symm rfl ⟨aDc_eq h1, rfl⟩
  case new i =>
    obtain ⟨rfl, rfl, k1⟩ := aNew_some h
    obtain ⟨k, rfl, k2⟩ := aOne_some k1
    obtain ⟨q, hq, hq2⟩ := List.any_eq_true.mp h2
    have e1 := (Bool.and_eq_true _ _).mp hq2
    have e2 := (Bool.and_eq_true _ _).mp e1.2
    have e3 := (Bool.and_eq_true _ _).mp e2.2
    obtain ⟨f1, f2, f3⟩ := of_decide_eq_true e1.1
    exact hthr q k hq f1 f3 rfl rfl (Option.some.inj k2).symm (by rw [f2]; exact aDc_eq h1) (aDc_eq e2.1) (aDc_eq e3.1) (aDc_eq e3.2)
  case invokevirtual i =>
    obtain ⟨mid, rfl, k1⟩ := aOne_some h
    exact hcv i mid (of_decide_eq_true h2) (aDc_eq h1) k1
  case invokestatic i =>
    rcases aInv_some h with ⟨mid, rfl, k1⟩ | ⟨rfl, k1⟩
    · exact hcs i mid (of_decide_eq_true h2) (aDc_eq h1) k1
    · obtain ⟨q1, q2, q3, q4⟩ := hyL _ (of_decide_eq_true h2)
      unfold aCopy at k1
      obtain ⟨n, S0, rfl, k2⟩ := aPI_some k1
      obtain ⟨dp, S1, rfl, k3⟩ := aPI_some k2
      obtain ⟨bb, S2, rfl, k4⟩ := aPR_some k3
      obtain ⟨sp, S3, rfl, k5⟩ := aPI_some k4
      obtain ⟨a, S4, rfl, k6⟩ := aPR_some k5
      obtain ⟨n0, hk0, k7⟩ := aArS_some k6
      obtain ⟨n1, hk1, k8⟩ := aArS_some k7
      obtain ⟨⟨rfl, rfl, c3, c4, c5, c6⟩, k9⟩ := aIf_some k8
      have z0 : Int32.toNatClampNeg 0 = 0 := by decide
      refine va_copyi hx hb (hml.trans hL.size.symm) hown (hts _ q1) (hts _ q2) (hts _ q3) (hts _ q4) hK hP (hD σ) hS a bb 0 0 (by rw [aWs_get (hw1 _ _ _ hk0).1, aEl_arr hk0 (by decide)]) (by rw [aWs_get (hw1 _ _ _ hk1).1, aEl_arr hk1 (by decide)]) rfl rfl rfl (by decide) (by decide) c3 (by rw [z0]; omega) (by rw [z0]; omega) (fun _ _ => rfl) hRf ?_ (aDc_eq h1) (fun H1 locs1 hP1 _ hS1 => ?_)
      · have e7 : ((S4.map (aVm ad)).map fun v => v.category) = S4.map fun v => v.category := by
          rw [List.map_map]
          exact List.map_congr_left fun v _ => aVm_cat ad v
        rw [e7]
        have : nativeFrameWords "java/lang/System" "arraycopy" 5 = 7 := by decide +kernel
        omega
      · rw [aWs_set (N := N) (dA := dA) (ad := ad) (kd := kd) (σ := σ) (σ' := aCp σ a bb n.toNatClampNeg) (by rw [aEl_arr hk1 (by decide), aCp_eq]) (fun j hj => aEl_cong (aCp_ne hj).symm rfl)] at hP1
        exact hgo _ _ _ _ (Option.some.inj k9).symm ls H1 locs1 hL hP1 hS1
  all_goals (have h' : (none : Option (aSt ⊕ (aRs × aH))) = some o := h; cases h')
end AStep
