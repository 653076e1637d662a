/-! ===== locals and constants: how the abstract state lies in the machine's ===== -/
def aLr (ad : Nat → Nat) (nL : Nat) (ls : Array Slot) (L : List (Option Value)) : Prop := L.length = nL ∧ ∃ lv : List (Nat × Value), lv_has ls nL lv ∧ ∀ (i : Nat) (v : Value), L[i]? = some (some v) → (i, aVm ad v) ∈ lv
theorem aLr.at {ad : Nat → Nat} {nL : Nat} {ls : Array Slot} {L : List (Option Value)} {i : Nat} {v : Value} (h : aLr ad nL ls L) (hi : L[i]? = some (some v)) : ls[i]? = some (.val (aVm ad v)) := by
  obtain ⟨_, lv, h1, h2⟩ := h
  exact h1.2.2 _ (h2 i v hi)
theorem aLr.size {ad : Nat → Nat} {nL : Nat} {ls : Array Slot} {L : List (Option Value)} (h : aLr ad nL ls L) : ls.size = nL := by
  obtain ⟨_, lv, h1, _⟩ := h
  exact h1.1
theorem aLr.none {ad : Nat → Nat} {nL : Nat} {ls : Array Slot} {L : List (Option Value)} (i : Nat) (h : aLr ad nL ls L) : aLr ad nL ls (L.set i none) := by
  obtain ⟨h0, lv, h1, h2⟩ := h
  refine ⟨by rw [List.length_set]; exact h0, lv, h1, fun j v hj => h2 j v ?_⟩
  rw [List.getElem?_set] at hj
  split at hj
  · split at hj <;> cases hj
  · exact hj
theorem aLr.kills {ad : Nat → Nat} {nL : Nat} {ls : Array Slot} : ∀ (ks : List Nat) {L : List (Option Value)}, aLr ad nL ls L → aLr ad nL ls (aKills ks L)
  | [], _, h => h
  | i :: ks, _, h => aLr.kills ks (h.none i)
theorem aLr.dead {ad : Nat → Nat} {nL : Nat} {ls : Array Slot} {L : List (Option Value)} (kl : List (Nat × List Nat)) (pc : Nat) (h : aLr ad nL ls L) : aLr ad nL ls (aDead kl pc L) := by
  unfold aDead
  split
  · exact h.kills _
  · exact h
theorem aKl_len (L : List (Option Value)) (i : Nat) : (aKl L i).length = L.length := by
  unfold aKl
  split
  · rfl
  · split <;> simp
theorem aKl_at {L : List (Option Value)} {i j : Nat} {v : Value} (h : (aKl L i)[j]? = some (some v)) : L[j]? = some (some v) ∧ ¬ (j + 1 = i ∧ v.category = 2) := by
  unfold aKl at h
  split at h
  · exact ⟨h, fun z => by omega⟩
  · rename_i k
    split at h
    · rw [List.getElem?_set] at h
      split at h
      · split at h <;> cases h
      · exact ⟨h, fun z => by omega⟩
    · rw [List.getElem?_set] at h
      split at h
      · split at h <;> cases h
      · exact ⟨h, fun z => by omega⟩
    · rename_i n1 n2
      refine ⟨h, fun z => ?_⟩
      obtain ⟨z1, z2⟩ := z
      have hjk : j = k := by omega
      subst hjk
      cases v with
      | long x => exact n1 x h
      | double x => exact n2 x h
      | int x => cases z2
      | float x => cases z2
      | null => cases z2
      | ref x => cases z2
      | retAddr x => cases z2
theorem aLr_st1 {ad : Nat → Nat} {nL i : Nat} {ls' : Array Slot} {L : List (Option Value)} {lv : List (Nat × Value)} {v : Value} (hlen : L.length = nL) (hmem : ∀ (i : Nat) (v : Value), L[i]? = some (some v) → (i, aVm ad v) ∈ lv)
    (h' : lv_has ls' nL ((i, aVm ad v) :: lv.filter (fun q => !(q.1 == i) && !(q.1 + 1 == i && q.2.category == 2)))) : aLr ad nL ls' (aS1 L i v) := by
  refine ⟨by unfold aS1; rw [List.length_set, aKl_len]; exact hlen, _, h', fun j w hj => ?_⟩
  unfold aS1 at hj
  rw [List.getElem?_set] at hj
  split at hj
  · rename_i e
    subst e
    split at hj
    · cases hj; exact List.mem_cons_self
    · cases hj
  · rename_i e
    obtain ⟨h1, h2⟩ := aKl_at hj
    refine List.mem_cons_of_mem _ (List.mem_filter.mpr ⟨hmem j w h1, ?_⟩)
    rw [aVm_cat]
    simp only [Bool.and_eq_true, Bool.not_eq_true', beq_eq_false_iff_ne, ne_eq, Bool.and_eq_false_imp, beq_iff_eq]
    exact ⟨fun z => e z.symm, fun z q => h2 ⟨z, q⟩⟩
theorem aLr_st2 {ad : Nat → Nat} {nL i : Nat} {ls' : Array Slot} {L : List (Option Value)} {lv : List (Nat × Value)} {v : Value} (hlen : L.length = nL) (hmem : ∀ (i : Nat) (v : Value), L[i]? = some (some v) → (i, aVm ad v) ∈ lv)
    (h' : lv_has ls' nL ((i, aVm ad v) :: lv.filter (fun q => !(q.1 == i) && (!(q.1 == i + 1) && !(q.1 + 1 == i && q.2.category == 2))))) : aLr ad nL ls' (aS2 L i v) := by
  refine ⟨by unfold aS2; rw [List.length_set, List.length_set, aKl_len]; exact hlen, _, h', fun j w hj => ?_⟩
  unfold aS2 at hj
  rw [List.getElem?_set] at hj
  split at hj
  · split at hj <;> cases hj
  · rename_i e1
    rw [List.getElem?_set] at hj
    split at hj
    · rename_i e
      subst e
      split at hj
      · cases hj; exact List.mem_cons_self
      · cases hj
    · rename_i e
      obtain ⟨h1, h2⟩ := aKl_at hj
      refine List.mem_cons_of_mem _ (List.mem_filter.mpr ⟨hmem j w h1, ?_⟩)
      rw [aVm_cat]
      simp only [Bool.and_eq_true, Bool.not_eq_true', beq_eq_false_iff_ne, ne_eq, Bool.and_eq_false_imp, beq_iff_eq]
      exact ⟨fun z => e z.symm, fun z => e1 z.symm, fun z q => h2 ⟨z, q⟩⟩
theorem aEnt_mem (ad : Nat → Nat) : ∀ (as : List Value) (k i : Nat) (v : Value), (aEnt as)[i]? = some (some v) → (k + i, aVm ad v) ∈ lv_args k (as.map (aVm ad))
  | [], k, i, v, h => by simp [aEnt] at h
  | w :: as, k, i, v, h => by
    have one : ∀ (hw : w.category = 1) (he : aEnt (w :: as) = some w :: aEnt as), (k + i, aVm ad v) ∈ lv_args k ((w :: as).map (aVm ad)) := by
      intro hw he
      rw [he] at h
      show _ ∈ (k, aVm ad w) :: lv_args (if (aVm ad w).category = 2 then k + 2 else k + 1) (as.map (aVm ad))
      rw [aVm_cat, hw, if_neg (by omega)]
      cases i with
      | zero =>
        rw [List.getElem?_cons_zero] at h
        cases h
        exact List.mem_cons_self
      | succ i =>
        rw [List.getElem?_cons_succ] at h
        have := aEnt_mem ad as (k + 1) i v h
        rw [show k + (i + 1) = k + 1 + i by omega]
        exact List.mem_cons_of_mem _ this
    have two : ∀ (hw : w.category = 2) (he : aEnt (w :: as) = some w :: none :: aEnt as), (k + i, aVm ad v) ∈ lv_args k ((w :: as).map (aVm ad)) := by
      intro hw he
      rw [he] at h
      show _ ∈ (k, aVm ad w) :: lv_args (if (aVm ad w).category = 2 then k + 2 else k + 1) (as.map (aVm ad))
      rw [aVm_cat, hw, if_pos rfl]
      cases i with
      | zero =>
        rw [List.getElem?_cons_zero] at h
        cases h
        exact List.mem_cons_self
      | succ i =>
        rw [List.getElem?_cons_succ] at h
        cases i with
        | zero => rw [List.getElem?_cons_zero] at h; cases h
        | succ i =>
          rw [List.getElem?_cons_succ] at h
          have := aEnt_mem ad as (k + 2) i v h
          rw [show k + (i + 1 + 1) = k + 2 + i by omega]
          exact List.mem_cons_of_mem _ this
    cases w with
    | long x => exact two rfl rfl
    | double x => exact two rfl rfl
    | int x => exact one rfl rfl
    | float x => exact one rfl rfl
    | null => exact one rfl rfl
    | ref x => exact one rfl rfl
    | retAddr x => exact one rfl rfl
theorem aEnt_len (ad : Nat → Nat) : ∀ as : List Value, (lg_sl (as.map (aVm ad))).length = (aEnt as).length
  | [] => rfl
  | w :: as => by
    have ih := aEnt_len ad as
    have e : lg_sl ((w :: as).map (aVm ad)) = (if (aVm ad w).category = 2 then [Slot.val (aVm ad w), .second] else [.val (aVm ad w)]) ++ lg_sl (as.map (aVm ad)) := rfl
    rw [e, List.length_append, ih, aVm_cat]
    cases w <;> simp [aEnt, Value.category] <;> omega
theorem aLr_entry (ad : Nat → Nat) (as : List Value) {n : Nat} (h : (aEnt as).length ≤ n) : aLr ad n ((lg_sl (as.map (aVm ad)) ++ List.replicate (n - (lg_sl (as.map (aVm ad))).length) Slot.unset).toArray) (aPad n (aEnt as)) := by
  have hl := lv_entry (as.map (aVm ad)) (n := n) (by rw [aEnt_len]; exact h)
  refine ⟨by unfold aPad; rw [List.length_append, List.length_replicate]; omega, _, hl, fun i v hi => ?_⟩
  unfold aPad at hi
  by_cases hlt : i < (aEnt as).length
  · rw [List.getElem?_append_left hlt] at hi
    have := aEnt_mem ad as 0 i v hi
    rwa [Nat.zero_add] at this
  · rw [List.getElem?_append_right (by omega)] at hi
    rw [List.getElem?_replicate] at hi
    split at hi <;> cases hi
/-- element types by number -/
def aTy : Nat → FieldType
  | 0 => .int
  | 1 => .byte
  | 2 => .boolean
  | _ => .long
abbrev aTys (dA : Nat → ClassId) : List (ClassId × FieldType) := [(dA 0, .int), (dA 1, .byte), (dA 2, .boolean), (dA 3, .long)]
abbrev aA (B0 : Nat) : Nat → Prop := fun q => B0 ≤ q
/-- what never changes: constant arrays and objects, static fields, texts, links of nest mates, what a throw reads -/
def aCn (kd : Nat → aKd) (fn : Nat → Nat → String × String × String) (stt : List (String × String × String × Value)) (strs : List (String × Nat × String × Nat)) (nst : List (String × Nat × MethodName × String)) (cst : List Cond) (ad : Nat → Nat) (B0 : Nat) (U : State) (H : Heap) : Prop :=
  (∀ (i t n : Nat) (f : Nat → Int32), kd i = .inr (.inr (.inl (t, n, f))) → t < 4 → va_T (aTy t) (ad i) n (fun j => .int (f j)) (aA B0) U H) ∧
  (∀ (i c : Nat) (nm : String) (vs : List Value), kd i = .inr (.inr (.inr (c, nm, vs))) → va_O nm (ad i) (aA B0) U H ∧ ∀ (k : Nat) (v : Value), vs[k]? = some v → va_OF (fn c k).1 (fn c k).2.1 (fn c k).2.2 (aVm ad v) (ad i) (aA B0) U H) ∧
  (∀ q ∈ stt, va_Z q.1 q.2.1 q.2.2.1 (aVm ad q.2.2.2) (aA B0) U H) ∧
  (∀ q ∈ strs, vk_R q.1 q.2.1 q.2.2.1 (ad q.2.2.2) U) ∧
  (∀ q ∈ nst, va_Nw (.methodLinkNest q.1 q.2.1 q.2.2.1 q.2.2.2) U) ∧
  (∀ w ∈ cst, (w.onTables = true ∧ (w.keepsFace = true ∨ ∃ a b, w = .castable a b)) ∧ va_Nw w U) ∧
  vx_Zq Bundle.tN "UNASSIGNED_STACK" Bundle.steD (aA B0) U H ∧ vx_Zq Bundle.tN "SUPPRESSED_SENTINEL" Bundle.listD (aA B0) U H
section ACn
variable {kd : Nat → aKd} {fn : Nat → Nat → String × String × String} {stt : List (String × String × String × Value)} {strs : List (String × Nat × String × Nat)} {nst : List (String × Nat × MethodName × String)} {cst : List Cond} {ad : Nat → Nat} {B0 : Nat}
theorem aCn.warm {u U : State} {H : Heap} (hW : u.WarmedH U.vm) (h : aCn kd fn stt strs nst cst ad B0 u H) : aCn kd fn stt strs nst cst ad B0 U H := by
  obtain ⟨h1, h2, h3, h4, h5, h6, h7, h8⟩ := h
  exact ⟨fun i t n f hk ht => (h1 i t n f hk ht).moved hW.alike, fun i c nm vs hk => ⟨(h2 i c nm vs hk).1.moved hW.alike, fun k v hv => ((h2 i c nm vs hk).2 k v hv).moved hW.alike⟩, fun q hq => (h3 q hq).moved hW.alike, fun q hq => (h4 q hq).warm hW, fun q hq => va_Nw.warmM hW (h5 q hq),
    fun w hw => by
      obtain ⟨⟨ho, hk⟩, h⟩ := h6 w hw
      refine ⟨⟨ho, hk⟩, ?_⟩
      rcases hk with hk | ⟨a, b, rfl⟩
      · exact va_tabs ho (rfl : (u.setVm U.vm).vm = U.vm) (Cond.before_shiftedFace (State.Shifted.of_warmed hW) _ hk h)
      · have e := Cond.castable_setVm (args := #[]) (s := u) hW.alike a b
        exact va_tabs (u := u.setVm U.vm) rfl rfl (e.trans h), h7.moved hW.alike, h8.moved hW.alike⟩
theorem aCn.kept {U : State} {H H1 : Heap} (hq : ∀ a : Nat, a < H.size → ¬ aA B0 a → H1[a]? = H[a]?) (h : aCn kd fn stt strs nst cst ad B0 U H) : aCn kd fn stt strs nst cst ad B0 U H1 := by
  obtain ⟨h1, h2, h3, h4, h5, h6, h7, h8⟩ := h
  exact ⟨fun i t n f hk ht => (h1 i t n f hk ht).kept hq, fun i c nm vs hk => ⟨(h2 i c nm vs hk).1.kept hq, fun k v hv => ((h2 i c nm vs hk).2 k v hv).kept hq⟩, fun q hq' => (h3 q hq').kept hq, h4, h5, h6, h7.kept hq, h8.kept hq⟩
theorem aCn.calling {U : State} {H : Heap} {g : JFrame} {mk : MethodId} {a : Array Value} (h : aCn kd fn stt strs nst cst ad B0 U H) : aCn kd fn stt strs nst cst ad B0 (U.calling g mk a) H := by
  obtain ⟨h1, h2, h3, h4, h5, h6, h7, h8⟩ := h
  have hv : U.vm.Alike (U.calling g mk a).vm := Vm.Alike.refl U.vm
  exact ⟨fun i t n f hk ht => (h1 i t n f hk ht).moved hv, fun i c nm vs hk => ⟨(h2 i c nm vs hk).1.moved hv, fun k v hv' => ((h2 i c nm vs hk).2 k v hv').moved hv⟩, fun q hq => (h3 q hq).moved hv, fun q hq => vk_R.same (u := U) rfl (h4 q hq), fun q hq => va_Nw.same rfl (u := U) rfl (h5 q hq), fun w hw => ⟨(h6 w hw).1, va_Nw.same (h6 w hw).1.1 (u := U) rfl (h6 w hw).2⟩, h7.moved hv, h8.moved hv⟩
end ACn
