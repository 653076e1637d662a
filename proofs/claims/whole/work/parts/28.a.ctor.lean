/-! ===== CONSTRUCTORS: a second small machine, all concrete: objects are laid one behind another ===== -/
abbrev aOb : Type := (Nat × Nat) ⊕ (Nat × List Value)
abbrev kSt : Type := Nat × List (Option Value) × List Value × List aOb
def kRefOk (n : Nat) (v : Value) : Bool := match v with
  | .ref a => decide (a < n ∨ 1000 ≤ a)
  | .float _ => false
  | _ => true
/-- all references are to objects that there are -/
def kOk (L : List (Option Value)) (S : List Value) (hs : List aOb) : Bool := L.all (fun v => match v with
  | some v => kRefOk hs.length v
  | none => true) && (S.all (kRefOk hs.length) && (hs.all (fun o => match o with
  | .inl _ => true
  | .inr (_, vs) => vs.all (kRefOk hs.length)) && decide (hs.length < 1000)))
def kFit (ty : FieldType) (v : Value) : Bool := match ty, v with
  | .int, .int _ => true
  | .object _, .ref _ => true
  | .array _, .ref _ => true
  | _, _ => false
def kSz (o : aOb) : Nat := match o with
  | .inl q => q.2
  | .inr q => q.2.length
def kSum : List aOb → Nat
  | [] => 0
  | o :: hs => kSz o + kSum hs
theorem kSum_app (a b : List aOb) : kSum (a ++ b) = kSum a + kSum b := by
  induction a with
  | nil => simp [kSum]
  | cons o a ih => simp [kSum, ih]; omega
theorem kSum_set {hs : List aOb} {i : Nat} {o o' : aOb} (h : hs[i]? = some o) (e : kSz o' = kSz o) : kSum (hs.set i o') = kSum hs := by
  induction hs generalizing i with
  | nil => rfl
  | cons x hs ih =>
    cases i with
    | zero => cases h; simp [kSum, e]
    | succ i => simp [kSum, ih h]
/-- dfl: a class's fields as they begin; fin: is the field final; tyF: its type -/
def kStep (dfl : Nat → List Value) (tyF : Nat → Nat → FieldType) (run : Nat → Nat → List aOb → Option (List aOb)) (code : List (Nat × aEn)) (st : kSt) : Option (kSt ⊕ List aOb) :=
  match aLook st.1 code, st with
  | some (.aload_n i, _, _, _), (pc, L, S, hs) => aLdR L i.val fun x => some (.inl (pc + 1, L, .ref x :: S, hs))
  | some (.astore_n i, _, _, _), (pc, L, S, hs) => aPR S fun x S => if i.val < L.length then some (.inl (pc + 1, aS1 L i.val (.ref x), S, hs)) else none
  | some (.istore i, _, _, _), (pc, L, S, hs) => aPI S fun x S => if i < L.length then some (.inl (pc + 2, aS1 L i (.int x), S, hs)) else none
  | some (.iconst _, im, _, _), (pc, L, S, hs) => some (.inl (pc + 1, L, .int im :: S, hs))
  | some (.bipush _, im, _, _), (pc, L, S, hs) => some (.inl (pc + 2, L, .int im :: S, hs))
  | some (.sipush _, im, _, _), (pc, L, S, hs) => some (.inl (pc + 3, L, .int im :: S, hs))
  | some (.dup, _, _, _), (pc, L, S, hs) => aPV S fun v S => if v.category = 1 then some (.inl (pc + 1, L, v :: v :: S, hs)) else none
  | some (.new _, _, [ci], _), (pc, L, S, hs) => if kOk L S hs = true then some (.inl (pc + 3, L, .ref hs.length :: S, hs ++ [.inr (ci, dfl ci)])) else none
  | some (.newarray _, _, [t], _), (pc, L, S, hs) => aPI S fun n S => if kOk L S hs = true ∧ ¬ n < 0 ∧ n.toNatClampNeg ≤ 10000 then some (.inl (pc + 2, L, .ref hs.length :: S, hs ++ [.inl (t, n.toNatClampNeg)])) else none
  | some (.putfield _, _, [ci, k, _], _), (pc, L, S, hs) => aPV S fun v S => aPR S fun b S => match hs[b]? with
    | some (.inr (c, vs)) => if c = ci ∧ k < vs.length ∧ kFit (tyF ci k) v = true then some (.inl (pc + 3, L, S, hs.set b (.inr (ci, vs.set k v)))) else none
    | _ => none
  | some (.invokespecial _, _, [], _), (pc, L, S, hs) => aPR S fun _ S => if (S.map fun v => v.category).sum ≤ 8 then some (.inl (pc + 3, L, S, hs)) else none
  | some (.invokespecial _, _, [mid], _), (pc, L, S, hs) => aPR S fun b S => if (S.map fun v => v.category).sum ≤ 8 ∧ kOk L S hs = true ∧ b < hs.length then match run mid b hs with
    | some hs' => some (.inl (pc + 3, L, S, hs'))
    | none => none
    else none
  | some (.return_, _, _, _), (_, _, [], hs) => some (.inr hs)
  | _, _ => none
def kLp (dfl : Nat → List Value) (tyF : Nat → Nat → FieldType) (run : Nat → Nat → List aOb → Option (List aOb)) (code : List (Nat × aEn)) : Nat → kSt → Option (List aOb)
  | 0, _ => none
  | n + 1, st => match kStep dfl tyF run code st with
    | some (.inl st) => kLp dfl tyF run code n st
    | some (.inr hs) => some hs
    | none => none
/-- up to a place -/
def kTo (stop : Nat) (dfl : Nat → List Value) (tyF : Nat → Nat → FieldType) (run : Nat → Nat → List aOb → Option (List aOb)) (code : List (Nat × aEn)) : Nat → kSt → Option kSt
  | 0, _ => none
  | n + 1, st => match kStep dfl tyF run code st with
    | some (.inl st) => match Nat.beq st.1 stop with
      | true => some st
      | false => kTo stop dfl tyF run code n st
    | _ => none
def kRun (dfl : Nat → List Value) (tyF : Nat → Nat → FieldType) (km : Nat → Option (List (Nat × aEn))) : Nat → Nat → Nat → List aOb → Option (List aOb)
  | 0, _, _, _ => none
  | d + 1, mid, b, hs => match km mid with
    | some code => kLp dfl tyF (kRun dfl tyF km d) code 400 (0, [some (.ref b)], [], hs)
    | none => none
def kCell (dA : Nat → ClassId) (ad : Nat → Nat) (o : aOb) : va_E := match o with
  | .inl (t, n) => match t with
    | 3 => .inl (dA 3, n, .inr (.inl fun _ => 0))
    | t => .inl (dA t, n, .inl fun _ => 0)
  | .inr (ci, vs) => .inr (ci, vs.map (aVm ad))
def kWs (dA : Nat → ClassId) (ad : Nat → Nat) (hs : List aOb) : va_W := hs.mapIdx fun i o => (ad i, kCell dA ad o)
theorem kWs_get {dA : Nat → ClassId} {ad : Nat → Nat} {hs : List aOb} {i : Nat} {o : aOb} (h : hs[i]? = some o) : (kWs dA ad hs)[i]? = some (ad i, kCell dA ad o) := by
  unfold kWs
  rw [List.getElem?_mapIdx, h]
  rfl
theorem kWs_set {dA : Nat → ClassId} {ad : Nat → Nat} {hs : List aOb} {i : Nat} {o : aOb} : (kWs dA ad hs).set i (ad i, kCell dA ad o) = kWs dA ad (hs.set i o) := by
  apply List.ext_getElem?
  intro j
  unfold kWs
  rw [List.getElem?_set, List.getElem?_mapIdx, List.getElem?_mapIdx, List.length_mapIdx, List.getElem?_set]
  by_cases e : i = j
  · subst e
    rw [if_pos rfl, if_pos rfl]
    split <;> rfl
  · rw [if_neg e, if_neg e]
/-- the addresses, with one more -/
def kAd (ad : Nat → Nat) (n q : Nat) : Nat → Nat := fun i => if i = n then q else ad i
theorem kVm {ad : Nat → Nat} {n q : Nat} {v : Value} (hn : n < 1000) (h : kRefOk n v = true) : aVm (kAd ad n q) v = aVm ad v := by
  cases v with
  | ref a =>
    have h : (a : Nat) < n ∨ 1000 ≤ (a : Nat) := of_decide_eq_true h
    show Value.ref (kAd ad n q a) = .ref (ad a)
    unfold kAd
    rw [if_neg (fun e => h.elim (fun h1 => Nat.ne_of_lt h1 e) (fun h1 => Nat.not_le.mpr hn (Nat.le_trans h1 (Nat.le_of_eq e))))]
  | float x => exact Bool.noConfusion (show false = true from h)
  | _ => rfl
theorem kVmL {ad : Nat → Nat} {n q : Nat} {vs : List Value} (hn : n < 1000) (h : vs.all (kRefOk n) = true) : vs.map (aVm (kAd ad n q)) = vs.map (aVm ad) :=
  List.map_congr_left fun v hv => kVm hn (List.all_eq_true.mp h v hv)
theorem kCell_ad {dA : Nat → ClassId} {ad : Nat → Nat} {n q : Nat} {o : aOb} (hn : n < 1000) (h : (match o with
  | .inl _ => true
  | .inr (_, vs) => vs.all (kRefOk n)) = true) : kCell dA (kAd ad n q) o = kCell dA ad o := by
  cases o with
  | inl x => rfl
  | inr x =>
    obtain ⟨ci, vs⟩ := x
    show Sum.inr (ci, vs.map (aVm (kAd ad n q))) = .inr (ci, vs.map (aVm ad))
    rw [kVmL hn h]
theorem kWs_app {dA : Nat → ClassId} {ad : Nat → Nat} {q : Nat} {L : List (Option Value)} {S : List Value} {hs : List aOb} {o : aOb} (h : kOk L S hs = true) : kWs dA ad hs ++ [(q, kCell dA (kAd ad hs.length q) o)] = kWs dA (kAd ad hs.length q) (hs ++ [o]) := by
  have h34 := (Bool.and_eq_true _ _).mp ((Bool.and_eq_true _ _).mp ((Bool.and_eq_true _ _).mp h).2).2
  have h3 := h34.1
  have hn : hs.length < 1000 := of_decide_eq_true h34.2
  unfold kWs
  rw [List.mapIdx_append]
  congr 1
  · apply List.ext_getElem?
    intro j
    rw [List.getElem?_mapIdx, List.getElem?_mapIdx]
    cases hj : hs[j]? with
    | none => rfl
    | some o' =>
      have hlt := (List.getElem?_eq_some_iff.mp hj).1
      show some (ad j, kCell dA ad o') = some (kAd ad hs.length q j, kCell dA (kAd ad hs.length q) o')
      have e : kAd ad hs.length q j = ad j := by unfold kAd; rw [if_neg (by omega)]
      rw [kCell_ad hn (List.all_eq_true.mp h3 o' (List.mem_of_getElem? hj)), e]
  · simp [kAd]
theorem aLr_ad {ad : Nat → Nat} {nL n q : Nat} {ls : Array Slot} {L : List (Option Value)} (hn : n < 1000) (h : L.all (fun v => match v with
  | some v => kRefOk n v
  | none => true) = true) (hL : aLr ad nL ls L) : aLr (kAd ad n q) nL ls L := by
  obtain ⟨h0, lv, h1, h2⟩ := hL
  refine ⟨h0, lv, h1, fun i v hi => ?_⟩
  have := List.all_eq_true.mp h (some v) (List.mem_of_getElem? hi)
  rw [kVm hn this]
  exact h2 i v hi

section KSt
variable {l : Launch} {cl : List vw_C} {D : va_G} {cn : Nat → String} {dA : Nat → ClassId} {B0 : Nat}
variable {nst : List (String × Nat × MethodName × String)} {WS : List Cond} {yv : Nat → MethodName} {cb : Nat → ByteArray}
variable {dfl : Nat → List Value} {tyF : Nat → Nat → FieldType} {km : Nat → Option (List (Nat × aEn))}
variable {p : Program} {e : Env} {R : Room} {s : State} {m : MethodId} {args : Array Value} {below : List Frame} {meth : Method} {c : Code} {H : Heap} {locs : List Loc} {cells slots : Nat} {Q : State → Prop} {ls : Array Slot} {cc : ByteArray} {nL own : Nat}
/-- what a row of a constructor's code is in the class file -/
def kEk (cl : List vw_C) (cn : Nat → String) (yv : Nat → MethodName) (cb : Nat → ByteArray) (nst : List (String × Nat × MethodName × String)) (WS : List Cond) (own : Nat) (ini : Bool) (cc : ByteArray) (q : Nat × aEn) : Prop := match q with
  | (pc, ins, im, ns, _) => match ins, ns with
    | .iconst n, _ => decode cc pc = .ok (.iconst n, 1) ∧ Int32.ofInt n = im
    | .bipush n, _ => decode cc pc = .ok (.bipush n, 2) ∧ (Int8.ofInt n).toInt32 = im
    | .sipush n, _ => decode cc pc = .ok (.sipush n, 3) ∧ (Int16.ofInt n).toInt32 = im
    | .new i, [ci] => decode cc pc = .ok (.new i, 3) ∧ ∃ (C : String) (T : u_T) (n : Nat), cl[ci]? = some (C, T, n) ∧ Cond.classLink (cn own) i C ∈ WS
    | .newarray a, [t] => decode cc pc = .ok (.newarray a, 2) ∧ t < 4 ∧ newarray.typeOf a = aTy t ∧ Cond.arrayClass (aTy t) ∈ WS
    | .putfield i, [ci, k, _] => decode cc pc = .ok (.putfield i, 3) ∧ ∃ (C : String) (T : u_T) (n : Nat), cl[ci]? = some (C, T, n) ∧ k < n ∧ Cond.fieldLink (cn own) i (T k).1 (T k).2.1 (T k).2.2.1 ∈ WS ∧ (((T k).2.2.2 = true ∧ (T k).1 = cn own ∧ ini = true) ∨ (T k).2.2.2 = false)
    | .invokespecial i, [] => decode cc pc = .ok (.invokespecial i, 3) ∧ Cond.methodLink (cn own) i objectInit ∈ WS ∧ Cond.instanceMethod objectInit ∈ WS ∧ Cond.code objectInit ⟨#[0xb1]⟩ 1 none ∈ WS
    | .invokespecial i, [mid] => decode cc pc = .ok (.invokespecial i, 3) ∧ aLk cn yv nst WS (own, i, mid) ∧ Cond.instanceMethod (yv mid) ∈ WS ∧ Cond.code (yv mid) (cb mid) 1 none ∈ WS ∧ Cond.initialized (yv mid).cls ∈ WS ∧ (yv mid).name = "<init>" ∧ (yv mid).cls ≠ "java/lang/invoke/MethodHandle" ∧ (yv mid).cls ≠ "java/lang/invoke/VarHandle" ∧ (parseMethodDescriptor (yv mid).desc).map (fun d => d.parameters.length) = some 0
    | ins, _ => decode cc pc = .ok (ins, aIl ins)
/-- what is known of the classes of the world -/
def kCls (cl : List vw_C) (dfl : Nat → List Value) (tyF : Nat → Nat → FieldType) (WS : List Cond) : Prop := ∀ (ci : Nat) (C : String) (T : u_T) (n : Nat), cl[ci]? = some (C, T, n) → (∀ a, a < n → ∀ b, b < n → a ≠ b → (T a).2.1 ≠ (T b).2.1) ∧ (∀ k, k < n → parseFieldDescriptor (T k).2.2.1 = some (tyF ci k)) ∧ (∀ w ∈ u_ws C T n, w ∈ WS) ∧ (dfl ci).length = n ∧ (∀ j, j < n → defaultValue (tyF ci j) = vp_V (dfl ci) j) ∧ (∀ f : Nat → Nat, (dfl ci).map (aVm f) = dfl ci) ∧ Cond.instantiable C n ∈ WS ∧ Cond.initialized C ∈ WS
def kDA (dA : Nat → ClassId) (U : State) : Prop := ∀ t, t < 4 → U.vm.findClass ("[" ++ (aTy t).toString) = some (dA t)
def kPc (D : va_G) (cl : List vw_C) (dA : Nat → ClassId) (B0 : Nat) (nst : List (String × Nat × MethodName × String)) (ad : Nat → Nat) (b : Nat) (hs : List aOb) : Array Value → State → Prop := va_Pc [.ref (ad b)] (fun U => va_P D cl (kWs dA ad hs) U.heap ∧ va_D (aA B0) (kWs dA ad hs) ∧ va_K D cl [] U ∧ kDA dA U ∧ B0 ≤ U.heap.size ∧ ∀ q ∈ nst, va_Nw (.methodLinkNest q.1 q.2.1 q.2.2.1 q.2.2.2) U)
def kQc (D : va_G) (cl : List vw_C) (dA : Nat → ClassId) (B0 : Nat) (ad : Nat → Nat) (hs hs' : List aOb) : Array Value → State → Outcome → State → Prop := fun _ st o t => o = .returned none ∧ (∃ ad' : Nat → Nat, (∀ i, i < hs.length ∨ 1000 ≤ i → ad' i = ad i) ∧ va_P D cl (kWs dA ad' hs') t.heap ∧ va_D (aA B0) (kWs dA ad' hs')) ∧ va_F (aA B0) st t
def kRm (d k n : Nat) : Room := { frames := d + 8, cells := k, slots := n, locals := 80 * d + 200 }
def kMet (l : Launch) (D : va_G) (cl : List vw_C) (dA : Nat → ClassId) (B0 : Nat) (nst : List (String × Nat × MethodName × String)) (WS : List Cond) (yv : Nat → MethodName) (cb : Nat → ByteArray) (d mid b : Nat) (hs hs' : List aOb) : Prop :=
  hs.length ≤ hs'.length ∧ kSum hs ≤ kSum hs' ∧ ∀ ad : Nat → Nat, Met l (yv mid) (Cond.code (yv mid) (cb mid) 1 none :: WS) (kRm d (hs'.length - hs.length) (kSum hs' - kSum hs)) (kPc D cl dA B0 nst ad b hs) (kQc D cl dA B0 ad hs hs') (hs'.length - hs.length) (kSum hs' - kSum hs) (aA B0)
theorem kPc_blind {ad : Nat → Nat} {b : Nat} {hs : List aOb} : FrameBlind (kPc D cl dA B0 nst ad b hs) := by
  intro a U g mk h
  obtain ⟨h1, h2, h3, h4, h5, h6, h7⟩ := h
  exact ⟨h1, h2, h3, va_K.moved (u := U) (U := U.calling g mk a) (Vm.Alike.refl U.vm) h4, h5, h6, fun q hq => va_Nw.same rfl (u := U) rfl (h7 q hq)⟩
theorem kBack {mc ms pc : Nat} {st0 rest : List Value} {hs hs' : List aOb} {ad : Nat → Nat} {aa : Array Value} (hr : va_Run p l e R s m args below meth c H locs cells slots mc ms (F0 m pc ls st0) rest (kQc D cl dA B0 ad hs hs' aa) (aA B0)) (hS : va_S (aA B0) s.heap H locs)
    (kk : ∀ (ad' : Nat → Nat) (H1 : Heap) (locs1 : List Loc), (∀ i, i < hs.length ∨ 1000 ≤ i → ad' i = ad i) → va_P D cl (kWs dA ad' hs') H1 → va_D (aA B0) (kWs dA ad' hs') → va_S (aA B0) s.heap H1 locs1 → W p l e R s m args below meth c H1 locs1 (cells + mc) (slots + ms) Q (F0 m (pc + 3) ls rest)) :
    W p l e R s m args below meth c H locs cells slots Q (F0 m pc ls st0) := by
  intro T hT X
  obtain ⟨v, st₀, t, T', L, h0, X', hL, e1, e2, ⟨hv, ⟨ad', h1, h2, h3⟩, hF⟩, st⟩ := hr T hT X
  cases hv
  obtain ⟨k1, k2, k3⟩ := vx_keep h0 e1 hS (fun _ _ h => h) (fun _ h => h) hL hF
  obtain ⟨t2, a1, b1⟩ := kk ad' T'.heap (locs ++ L) h1 (by rw [e1]; exact h2) h3 k3 T' rfl X'
  exact ⟨t2, st t2 a1, b1⟩
theorem aLr_ad2 {ad ad' : Nat → Nat} {nL n : Nat} {ls : Array Slot} {L : List (Option Value)} (h : L.all (fun v => match v with
  | some v => kRefOk n v
  | none => true) = true) (ha : ∀ i, i < n ∨ 1000 ≤ i → ad' i = ad i) (hL : aLr ad nL ls L) : aLr ad' nL ls L := by
  obtain ⟨h0, lv, h1, h2⟩ := hL
  refine ⟨h0, lv, h1, fun i v hi => ?_⟩
  have hv := List.all_eq_true.mp h (some v) (List.mem_of_getElem? hi)
  have e : aVm ad' v = aVm ad v := by
    cases v with
    | ref a => show Value.ref _ = .ref _; rw [ha a (of_decide_eq_true hv)]
    | float x => exact Bool.noConfusion (show false = true from hv)
    | _ => rfl
  rw [e]
  exact h2 i v hi
theorem kSt_ad2 {ad ad' : Nat → Nat} {n : Nat} {S : List Value} (h : S.all (kRefOk n) = true) (ha : ∀ i, i < n ∨ 1000 ≤ i → ad' i = ad i) : S.map (aVm ad') = S.map (aVm ad) :=
  List.map_congr_left fun v hv => by
    have hv := List.all_eq_true.mp h v hv
    cases v with
    | ref a => show Value.ref _ = .ref _; rw [ha a (of_decide_eq_true hv)]
    | float x => exact Bool.noConfusion (show false = true from hv)
    | _ => rfl
set_option maxHeartbeats 8000000 in
theorem kStepW (hx : p.tables.exec = Jvm.exec) (hb : c.code = cc) (hml : c.maxLocals = nL) (hown : s.vm.findClass (cn own) = some m.cls) (hts : ∀ w ∈ WS, w.before args s = true) (hgw : ∀ w ∈ WS, goodWord w = true) (hK : va_K D cl [] s) (hdA : kDA dA s) (hB : B0 ≤ s.heap.size) (hN : ∀ q ∈ nst, va_Nw (.methodLinkNest q.1 q.2.1 q.2.2.1 q.2.2.2) s)
    (hcls : kCls cl dfl tyF WS) {ini : Bool} (hini : ini = true → meth.name = "<init>") {d : Nat} {run : Nat → Nat → List aOb → Option (List aOb)}
    (hIH : ∀ mid b hs hs', run mid b hs = some hs' → kMet l D cl dA B0 nst WS yv cb d mid b hs hs')
    (hRf : d + 9 ≤ R.frames) (hRl : 80 * d + 280 ≤ R.locals) {code : List (Nat × aEn)} (hcode : ∀ q ∈ code, kEk cl cn yv cb nst WS own ini cc q)
    {hs0 : List aOb} {pc : Nat} {L : List (Option Value)} {S : List Value} {hs : List aOb} {o : kSt ⊕ List aOb} {ad : Nat → Nat}
    (h : kStep dfl tyF run code (pc, L, S, hs) = some o) (hL : aLr ad nL ls L) (hP : va_P D cl (kWs dA ad hs) H) (hD : va_D (aA B0) (kWs dA ad hs)) (hS : va_S (aA B0) s.heap H locs)
    (hce : cells + hs0.length = hs.length) (hsl : slots + kSum hs0 = kSum hs) (hle : hs0.length ≤ hs.length)
    (hR : ∀ st', o = .inl st' → st'.2.2.2.length ≤ hs0.length + R.cells ∧ kSum st'.2.2.2 ≤ kSum hs0 + R.slots)
    (hk : ∀ pc' L' S' hs', o = .inl (pc', L', S', hs') → ∀ (ad' : Nat → Nat) (H' : Heap) (locs' : List Loc) (ls' : Array Slot) (cells' slots' : Nat), (∀ i, i < hs.length ∨ 1000 ≤ i → ad' i = ad i) → hs.length ≤ hs'.length → cells' + hs0.length = hs'.length → slots' + kSum hs0 = kSum hs' → aLr ad' nL ls' L' → va_P D cl (kWs dA ad' hs') H' → va_D (aA B0) (kWs dA ad' hs') → va_S (aA B0) s.heap H' locs' → W p l e R s m args below meth c H' locs' cells' slots' Q (F0 m pc' ls' (S'.map (aVm ad'))))
    (hr : o = .inr hs → S = [] → decode cc pc = .ok (.return_, 1) → W p l e R s m args below meth c H locs cells slots Q (F0 m pc ls [])) :
    W p l e R s m args below meth c H locs cells slots Q (F0 m pc ls (S.map (aVm ad))) := by
  unfold kStep at h
  split at h
  · rename_i i im ns cv pc L S hs hlook hst
    cases hst
    have hE := hcode _ (aLook_mem hlook)
    obtain ⟨x, hi, k1⟩ := aLdR_some h
    exact lv_aload_n hx hb hE rfl (hL.at hi) (hk _ _ _ _ (Option.some.inj k1).symm ad H locs ls cells slots (fun _ _ => rfl) (Nat.le_refl _) hce hsl hL hP hD hS)
  · rename_i i im ns cv pc L S hs hlook hst
    cases hst
    have hE := hcode _ (aLook_mem hlook)
    obtain ⟨x, S1, rfl, k1⟩ := aPR_some h
    obtain ⟨hi, k2⟩ := aIf_some k1
    obtain ⟨hlen, lv, hlv, hmem⟩ := hL
    rw [hlen] at hi
    exact lv_astore_n hx hb hE rfl hlv hi rfl (fun ls' h' => hk _ _ _ _ (Option.some.inj k2).symm ad H locs ls' cells slots (fun _ _ => rfl) (Nat.le_refl _) hce hsl (aLr_st1 hlen hmem h') hP hD hS)
  · rename_i i im ns cv pc L S hs hlook hst
    cases hst
    have hE := hcode _ (aLook_mem hlook)
    obtain ⟨x, S1, rfl, k1⟩ := aPI_some h
    obtain ⟨hi, k2⟩ := aIf_some k1
    obtain ⟨hlen, lv, hlv, hmem⟩ := hL
    rw [hlen] at hi
    exact lv_istore hx hb hE hlv hi rfl (fun ls' h' => hk _ _ _ _ (Option.some.inj k2).symm ad H locs ls' cells slots (fun _ _ => rfl) (Nat.le_refl _) hce hsl (aLr_st1 hlen hmem h') hP hD hS)
  · rename_i n im ns cv pc L S hs hlook hst
    cases hst
    obtain ⟨e1, e2⟩ := hcode _ (aLook_mem hlook)
    exact lv_iconst hx hb e1 e2 (hk _ _ _ _ (Option.some.inj h).symm ad H locs ls cells slots (fun _ _ => rfl) (Nat.le_refl _) hce hsl hL hP hD hS)
  · rename_i n im ns cv pc L S hs hlook hst
    cases hst
    obtain ⟨e1, e2⟩ := hcode _ (aLook_mem hlook)
    exact lv_bipush hx hb e1 e2 (hk _ _ _ _ (Option.some.inj h).symm ad H locs ls cells slots (fun _ _ => rfl) (Nat.le_refl _) hce hsl hL hP hD hS)
  · rename_i n im ns cv pc L S hs hlook hst
    cases hst
    obtain ⟨e1, e2⟩ := hcode _ (aLook_mem hlook)
    exact lv_sipush hx hb e1 e2 (hk _ _ _ _ (Option.some.inj h).symm ad H locs ls cells slots (fun _ _ => rfl) (Nat.le_refl _) hce hsl hL hP hD hS)
  · rename_i im ns cv pc L S hs hlook hst
    cases hst
    have hE := hcode _ (aLook_mem hlook)
    obtain ⟨v, S1, rfl, k1⟩ := aPV_some h
    obtain ⟨hv, k2⟩ := aIf_some k1
    exact lv_dup hx hb hE ((aVm_cat ad v).trans hv) (hk _ _ _ _ (Option.some.inj k2).symm ad H locs ls cells slots (fun _ _ => rfl) (Nat.le_refl _) hce hsl hL hP hD hS)
  · rename_i i im ci cv pc L S hs hlook hst
    cases hst
    obtain ⟨e1, C, T, n, e2, e3⟩ := hcode _ (aLook_mem hlook)
    obtain ⟨hok, k1⟩ := aIf_some h
    have hlt : hs.length < 1000 := of_decide_eq_true ((Bool.and_eq_true _ _).mp ((Bool.and_eq_true _ _).mp ((Bool.and_eq_true _ _).mp hok).2).2).2
    obtain ⟨c1, c2, c3, c4, c5, c6, c7, c8⟩ := hcls _ _ _ _ e2
    have ho := (Option.some.inj k1).symm
    obtain ⟨r1, r2⟩ := hR _ ho
    have z1 : (hs ++ [(.inr (ci, dfl ci) : aOb)]).length = hs.length + 1 := by simp
    have z2 : kSum (hs ++ [(.inr (ci, dfl ci) : aOb)]) = kSum hs + n := by rw [kSum_app]; simp [kSum, kSz, c4]
    have r1 : (hs ++ [(.inr (ci, dfl ci) : aOb)]).length ≤ hs0.length + R.cells := r1
    have r2 : kSum (hs ++ [(.inr (ci, dfl ci) : aOb)]) ≤ kSum hs0 + R.slots := r2
    have hoL := (Bool.and_eq_true _ _).mp hok
    have hoS := (Bool.and_eq_true _ _).mp hoL.2
    refine va_new (ci := ci) (fs := dfl ci) hx hb hts c3 (tyF ci) c2 hown (hts _ e3) (hts _ c7) (hts _ c8) hK hP hD hS (fun q hq => Nat.le_trans hB hq) e2 c5 (by omega) (by omega) e1 (fun q H1 hP1 hD1 hS1 => ?_)
    have e9 : kWs dA ad hs ++ [(q, (.inr (ci, dfl ci) : va_E))] = kWs dA (kAd ad hs.length q) (hs ++ [.inr (ci, dfl ci)]) := by
      rw [← kWs_app hok]
      show _ = _ ++ [(q, Sum.inr (ci, (dfl ci).map (aVm (kAd ad hs.length q))))]
      rw [c6]
    rw [e9] at hP1 hD1
    have := hk _ _ _ _ ho (kAd ad hs.length q) H1 locs ls (cells + 1) (slots + n) (fun i hi => by unfold kAd; rw [if_neg (by omega)]) (by rw [z1]; omega) (by rw [z1]; omega) (by rw [z2]; omega) (aLr_ad hlt hoL.1 hL) hP1 hD1 hS1
    have e10 : (Value.ref hs.length :: S).map (aVm (kAd ad hs.length q)) = .ref q :: S.map (aVm ad) := by
      show Value.ref (kAd ad hs.length q hs.length) :: S.map (aVm (kAd ad hs.length q)) = _
      rw [kVmL hlt hoS.1]
      unfold kAd
      rw [if_pos rfl]
    rw [e10] at this
    exact this
  · rename_i a im t cv pc L S hs hlook hst
    cases hst
    obtain ⟨e1, e2, e3, e4⟩ := hcode _ (aLook_mem hlook)
    obtain ⟨n, S1, rfl, k0⟩ := aPI_some h
    obtain ⟨⟨hok, hn0, hn1⟩, k1⟩ := aIf_some k0
    have hlt : hs.length < 1000 := of_decide_eq_true ((Bool.and_eq_true _ _).mp ((Bool.and_eq_true _ _).mp ((Bool.and_eq_true _ _).mp hok).2).2).2
    have ho := (Option.some.inj k1).symm
    obtain ⟨r1, r2⟩ := hR _ ho
    have z1 : (hs ++ [(.inl (t, n.toNatClampNeg) : aOb)]).length = hs.length + 1 := by simp
    have z2 : kSum (hs ++ [(.inl (t, n.toNatClampNeg) : aOb)]) = kSum hs + n.toNatClampNeg := by rw [kSum_app]; simp [kSum, kSz]
    have r1 : (hs ++ [(.inl (t, n.toNatClampNeg) : aOb)]).length ≤ hs0.length + R.cells := r1
    have r2 : kSum (hs ++ [(.inl (t, n.toNatClampNeg) : aOb)]) ≤ kSum hs0 + R.slots := r2
    have hoL := (Bool.and_eq_true _ _).mp hok
    have hoS := (Bool.and_eq_true _ _).mp hoL.2
    have hoS1 : S1.all (kRefOk hs.length) = true := hoS.1
    have fin : ∀ (a0 : vp_A), (∀ cA : ClassId, vp_cell cA a0 = arrV cA n.toNatClampNeg (fun _ => defaultValue (aTy t))) → (∀ ad : Nat → Nat, kCell dA ad (.inl (t, n.toNatClampNeg)) = .inl (dA t, a0)) → (∀ cA, va_RA s cA (aTy t) → cA = dA t) → W p l e R s m args below meth c H locs cells slots Q (F0 m pc ls ((Value.int n :: S1).map (aVm ad))) := by
      intro a0 f1 f2 f3
      have hby0 : componentBytes (aTy t) ≤ 8 := by rcases (show t = 0 ∨ t = 1 ∨ t = 2 ∨ t = 3 by omega) with rfl | rfl | rfl | rfl <;> decide
      have hby : n.toNatClampNeg * componentBytes (aTy t) ≤ 536870912 := Nat.le_trans (Nat.mul_le_mul hn1 hby0) (by decide)
      refine va_newa (atype := a) (a0 := a0) (ty := aTy t) hx hb (by rw [e3]; exact hts _ e4) e3 hK hP hD hS (fun q hq => Nat.le_trans hB hq) f1 hn0 rfl hby (by omega) (by omega) e1 (fun q cA H1 hK1 hP1 hD1 hS1 => ?_)
      have hcA : cA = dA t := f3 cA ((hK1.2 0 (cA, aTy t) rfl).2)
      subst hcA
      rw [← f2 (kAd ad hs.length q), kWs_app hok] at hP1 hD1
      have := hk _ _ _ _ ho (kAd ad hs.length q) H1 locs ls (cells + 1) (slots + n.toNatClampNeg) (fun i hi => by unfold kAd; rw [if_neg (by omega)]) (by rw [z1]; omega) (by rw [z1]; omega) (by rw [z2]; omega) (aLr_ad hlt hoL.1 hL) hP1 hD1 hS1
      have e10 : (Value.ref hs.length :: S1).map (aVm (kAd ad hs.length q)) = .ref q :: S1.map (aVm ad) := by
        show Value.ref (kAd ad hs.length q hs.length) :: S1.map (aVm (kAd ad hs.length q)) = _
        rw [kVmL hlt hoS1]
        unfold kAd
        rw [if_pos rfl]
      rw [e10] at this
      exact this
    have f3 : ∀ cA, va_RA s cA (aTy t) → cA = dA t := by
      intro cA hRA
      have h1 := hdA t e2
      have h2 : s.vm.findClass ("[" ++ (aTy t).toString) = some cA := by
        rcases (show t = 0 ∨ t = 1 ∨ t = 2 ∨ t = 3 by omega) with rfl | rfl | rfl | rfl <;> exact hRA
      exact Option.some.inj (h2.symm.trans h1)
    rcases (show t = 0 ∨ t = 1 ∨ t = 2 ∨ t = 3 by omega) with rfl | rfl | rfl | rfl
    · exact fin (n.toNatClampNeg, .inl fun _ => 0) (fun _ => rfl) (fun _ => rfl) f3
    · exact fin (n.toNatClampNeg, .inl fun _ => 0) (fun _ => rfl) (fun _ => rfl) f3
    · exact fin (n.toNatClampNeg, .inl fun _ => 0) (fun _ => rfl) (fun _ => rfl) f3
    · exact fin (n.toNatClampNeg, .inr (.inl fun _ => 0)) (fun _ => rfl) (fun _ => rfl) f3
  · rename_i i im ci k f cv pc L S hs hlook hst
    cases hst
    obtain ⟨e1, C, T, n, e2, e3, e4, e5⟩ := hcode _ (aLook_mem hlook)
    obtain ⟨v, S1, rfl, k1⟩ := aPV_some h
    obtain ⟨b, S2, rfl, k2⟩ := aPR_some k1
    obtain ⟨c1, c2, c3, c4, c5, c6, c7, c8⟩ := hcls _ _ _ _ e2
    split at k2
    · rename_i c0 vs hb0
      obtain ⟨⟨rfl, hkl, hfit⟩, k3⟩ := aIf_some k2
      have ho := (Option.some.inj k3).symm
      have hnar : narrow (tyF c0 k) (aVm ad v) = aVm ad v ∧ fits (tyF c0 k) (aVm ad v) = true := by
        revert hfit
        cases tyF c0 k <;> cases v <;> intro hfit <;> first | exact Bool.noConfusion hfit | exact ⟨rfl, rfl⟩
      have hset : (kWs dA ad hs).set b (ad b, .inr (c0, (vs.map (aVm ad)).set k (aVm ad v))) = kWs dA ad (hs.set b (.inr (c0, vs.set k v))) := by
        rw [← List.map_set]
        exact kWs_set (o := .inr (c0, vs.set k v))
      have hfinal : ∀ (H1 : Heap) (locs1 : List Loc), va_P D cl ((kWs dA ad hs).set b (ad b, .inr (c0, (vs.map (aVm ad)).set k (aVm ad v)))) H1 → va_D (aA B0) ((kWs dA ad hs).set b (ad b, .inr (c0, (vs.map (aVm ad)).set k (aVm ad v)))) → va_S (aA B0) s.heap H1 locs1 → W p l e R s m args below meth c H1 locs1 cells slots Q (F0 m (pc + 3) ls (S2.map (aVm ad))) := by
        intro H1 locs1 hP1 hD1 hS1
        rw [hset] at hP1 hD1
        exact hk _ _ _ _ ho ad H1 locs1 ls cells slots (fun _ _ => rfl) (by rw [List.length_set]; exact Nat.le_refl _) (by rw [List.length_set]; exact hce) (by rw [kSum_set hb0 (by simp [kSz])]; exact hsl) hL hP1 hD1 hS1
      rcases e5 with ⟨g1, g2, g3⟩ | g1
      · exact va_putF hx hb hts c3 (tyF c0) c2 c1 hown hK hP hD hS b (fs := vs.map (aVm ad)) (kWs_get hb0) e2 k e3 (hts _ e4) (fun _ z => z) g1 (hini g3) g2 (c2 k e3) hnar.1 hnar.2 (by rw [List.length_map]; exact hkl) e1 hfinal
      · exact va_put hx hb hts c3 (tyF c0) c2 c1 hown hK hP hD hS b (fs := vs.map (aVm ad)) (kWs_get hb0) e2 k e3 (hts _ e4) (fun _ z => z) g1 (c2 k e3) hnar.1 hnar.2 (by rw [List.length_map]; exact hkl) e1 hfinal
    · cases k2
  · rename_i i im cv pc L S hs hlook hst
    cases hst
    obtain ⟨e1, e2, e3, e4⟩ := hcode _ (aLook_mem hlook)
    obtain ⟨b, S1, rfl, k1⟩ := aPR_some h
    obtain ⟨hc8, k2⟩ := aIf_some k1
    have hcat : ((S1.map (aVm ad)).map fun v => v.category).sum ≤ 8 := by
      have e7 : ((S1.map (aVm ad)).map fun v => v.category) = S1.map fun v => v.category := by
        rw [List.map_map]
        exact List.map_congr_left fun v _ => aVm_cat ad v
      rw [e7]
      exact hc8
    exact W.objInit hx hb hown (hts _ e2) (hts _ e3) (hts _ e4) rfl (hL.size.trans hml.symm) rfl e1 (by omega) (by show 2 * 0 + _ + 12 ≤ R.locals; omega) (hk _ _ _ _ (Option.some.inj k2).symm ad H locs ls cells slots (fun _ _ => rfl) (Nat.le_refl _) hce hsl hL hP hD hS)
  · rename_i i im mid cv pc L S hs hlook hst
    cases hst
    obtain ⟨e1, e2, e3, e4, e5, e6, e7, e8, e9⟩ := hcode _ (aLook_mem hlook)
    obtain ⟨b, S1, rfl, k1⟩ := aPR_some h
    obtain ⟨⟨hc8, hok, hbl⟩, k2⟩ := aIf_some k1
    split at k2
    · rename_i hs' hrun
      have ho := (Option.some.inj k2).symm
      obtain ⟨r1, r2⟩ := hR _ ho
      have r1 : hs'.length ≤ hs0.length + R.cells := r1
      have r2 : kSum hs' ≤ kSum hs0 + R.slots := r2
      obtain ⟨m1, m2, hmet⟩ := hIH _ _ _ _ hrun
      have hcat : ((S1.map (aVm ad)).map fun v => v.category).sum ≤ 8 := by
        have e7 : ((S1.map (aVm ad)).map fun v => v.category) = S1.map fun v => v.category := by
          rw [List.map_map]
          exact List.map_congr_left fun v _ => aVm_cat ad v
        rw [e7]
        exact hc8
      have hG : GoodIn WS (Cond.code (yv mid) (cb mid) 1 none :: WS) := by
        intro w hw
        rcases List.mem_cons.mp hw with rfl | hw
        · exact ⟨e4, good_of_word (hgw _ e4)⟩
        · exact ⟨hw, good_of_word (hgw _ hw)⟩
      have hpre : ∀ U : State, U.heap = H → s.WarmedH U.vm → kPc D cl dA B0 nst ad b hs (Value.ref (ad b) :: []).toArray U := fun U hU hW => ⟨rfl, by rw [hU]; exact hP, hD, hK.moved hW.alike, fun t ht => by rw [hW.alike.findClass]; exact hdA t ht, by rw [hU]; exact Nat.le_trans hB hS.1, fun q hq => va_Nw.warmM hW (hN q hq)⟩
      have hRm1 : (kRm d (hs'.length - hs.length) (kSum hs' - kSum hs)).frames = d + 8 := rfl
      have hRm2 : (kRm d (hs'.length - hs.length) (kSum hs' - kSum hs)).locals = 80 * d + 200 := rfl
      have hRR : (kRm d (hs'.length - hs.length) (kSum hs' - kSum hs)).frames + 1 ≤ R.frames ∧ 8 + (1 + 11) + (kRm d (hs'.length - hs.length) (kSum hs' - kSum hs)).locals ≤ R.locals := ⟨by omega, by omega⟩
      have hbud : cells + (hs'.length - hs.length) ≤ R.cells ∧ slots + (kSum hs' - kSum hs) ≤ R.slots := ⟨by omega, by omega⟩
      have hrun2 : va_Run p l e R s m args below meth c H locs cells slots (hs'.length - hs.length) (kSum hs' - kSum hs) (F0 m pc ls ((Value.ref b :: S1).map (aVm ad))) (S1.map (aVm ad)) (kQc D cl dA B0 ad hs hs' (Value.ref (ad b) :: []).toArray) (aA B0) := by
        rcases e2 with hl | ⟨host, hl⟩
        · exact va_runI (As := []) (n := 0) (own := cn own) (index := i) (bytes := cb mid) (maxL := 1) ⟨hx, hb, hml, hown, hts⟩ (hmet ad) (cwI 0 hts hG rfl rfl rfl (hts _ e5) (hts _ hl) (hts _ e3) e6 ⟨e7, e8, e9⟩ hRR) ⟨kPc_blind, hpre⟩ rfl rfl hL.size rfl (lv_room hcat) e1 hbud
        · exact va_runIN (As := []) (n := 0) (own := cn own) (index := i) (bytes := cb mid) (maxL := 1) ⟨hx, hb, hml, hown, hts⟩ (hmet ad) ⟨va_cnB 0 hts hG rfl rfl rfl (hN _ hl) (hts _ e5) ⟨e7, e8, e9⟩ hRR, e6, hts _ e3⟩ ⟨kPc_blind, hpre⟩ rfl rfl hL.size rfl (lv_room hcat) e1 hbud
      have hoL := (Bool.and_eq_true _ _).mp hok
      have hoS := (Bool.and_eq_true _ _).mp hoL.2
      have hoS1 : S1.all (kRefOk hs.length) = true := hoS.1
      refine kBack hrun2 hS (fun ad' H1 locs1 ha hP1 hD1 hS1 => ?_)
      have := hk _ _ _ _ ho ad' H1 locs1 ls (cells + (hs'.length - hs.length)) (slots + (kSum hs' - kSum hs)) ha m1 (by omega) (by omega) (aLr_ad2 hoL.1 ha hL) hP1 hD1 hS1
      rw [kSt_ad2 hoS1 ha] at this
      exact this
    · cases k2
  · rename_i im ns cv pc L hs hlook hst
    cases hst
    have hE := hcode _ (aLook_mem hlook)
    exact hr (Option.some.inj h).symm rfl hE
  · cases h
end KSt

theorem kStep_mono {dfl : Nat → List Value} {tyF : Nat → Nat → FieldType} {run : Nat → Nat → List aOb → Option (List aOb)} {code : List (Nat × aEn)} (hrun : ∀ mid b hs hs', run mid b hs = some hs' → hs.length ≤ hs'.length ∧ kSum hs ≤ kSum hs') {st : kSt} {o : kSt ⊕ List aOb} (h : kStep dfl tyF run code st = some o) :
    (∀ st', o = .inl st' → st.2.2.2.length ≤ st'.2.2.2.length ∧ kSum st.2.2.2 ≤ kSum st'.2.2.2) ∧ ∀ hs, o = .inr hs → hs = st.2.2.2 := by
  have same : ∀ {pc : Nat} {L : List (Option Value)} {S : List Value} {hs : List aOb} {o : kSt ⊕ List aOb}, some (Sum.inl (pc, L, S, hs)) = some o → (∀ st', o = .inl st' → hs.length ≤ st'.2.2.2.length ∧ kSum hs ≤ kSum st'.2.2.2) ∧ ∀ hs', o = .inr hs' → hs' = hs := by
    intro pc L S hs o h
    cases h
    exact ⟨fun st' e => by cases e; exact ⟨Nat.le_refl _, Nat.le_refl _⟩, fun hs' e => by cases e⟩
  unfold kStep at h
  split at h
  · obtain ⟨x, -, k1⟩ := aLdR_some h; exact same k1
  · obtain ⟨x, S1, -, k1⟩ := aPR_some h; obtain ⟨-, k2⟩ := aIf_some k1; exact same k2
  · obtain ⟨x, S1, -, k1⟩ := aPI_some h; obtain ⟨-, k2⟩ := aIf_some k1; exact same k2
  · exact same h
  · exact same h
  · exact same h
  · obtain ⟨x, S1, -, k1⟩ := aPV_some h; obtain ⟨-, k2⟩ := aIf_some k1; exact same k2
  · obtain ⟨-, k1⟩ := aIf_some h
    cases k1
    exact ⟨fun st' e => by cases e; exact ⟨by simp, by show _ ≤ kSum (_ ++ _); rw [kSum_app]; exact Nat.le_add_right _ _⟩, fun hs' e => by cases e⟩
  · obtain ⟨x, S1, -, k1⟩ := aPI_some h
    obtain ⟨-, k2⟩ := aIf_some k1
    cases k2
    exact ⟨fun st' e => by cases e; exact ⟨by simp, by show _ ≤ kSum (_ ++ _); rw [kSum_app]; exact Nat.le_add_right _ _⟩, fun hs' e => by cases e⟩
  · obtain ⟨v, S1, -, k1⟩ := aPV_some h
    obtain ⟨b, S2, -, k2⟩ := aPR_some k1
    split at k2
    · rename_i c0 vs hb0
      obtain ⟨⟨rfl, -, -⟩, k3⟩ := aIf_some k2
      cases k3
      exact ⟨fun st' e => by cases e; exact ⟨by show _ ≤ (List.set _ _ _).length; rw [List.length_set]; exact Nat.le_refl _, by show _ ≤ kSum (List.set _ _ _); rw [kSum_set hb0 (by simp [kSz])]; exact Nat.le_refl _⟩, fun hs' e => by cases e⟩
    · cases k2
  · obtain ⟨x, S1, -, k1⟩ := aPR_some h; obtain ⟨-, k2⟩ := aIf_some k1; exact same k2
  · obtain ⟨b, S1, -, k1⟩ := aPR_some h
    obtain ⟨-, k2⟩ := aIf_some k1
    split at k2
    · rename_i hs' hr
      cases k2
      exact ⟨fun st' e => by cases e; exact hrun _ _ _ _ hr, fun hs' e => by cases e⟩
    · cases k2
  · cases h
    exact ⟨fun st' e => (by cases e), fun hs' e => (by cases e; rfl)⟩
  · cases h
theorem kLp_mono {dfl : Nat → List Value} {tyF : Nat → Nat → FieldType} {run : Nat → Nat → List aOb → Option (List aOb)} {code : List (Nat × aEn)} (hrun : ∀ mid b hs hs', run mid b hs = some hs' → hs.length ≤ hs'.length ∧ kSum hs ≤ kSum hs') : ∀ (n : Nat) {st : kSt} {hsf : List aOb}, kLp dfl tyF run code n st = some hsf → st.2.2.2.length ≤ hsf.length ∧ kSum st.2.2.2 ≤ kSum hsf
  | 0, st, hsf, h => by cases h
  | n + 1, st, hsf, h => by
    unfold kLp at h
    split at h
    · rename_i st' hst
      obtain ⟨h1, h2⟩ := (kStep_mono hrun hst).1 _ rfl
      obtain ⟨h3, h4⟩ := kLp_mono hrun n h
      exact ⟨Nat.le_trans h1 h3, Nat.le_trans h2 h4⟩
    · rename_i hs' hst
      have := (kStep_mono hrun hst).2 _ rfl
      cases h
      rw [this]
      exact ⟨Nat.le_refl _, Nat.le_refl _⟩
    · cases h
section KSo
variable {l : Launch} {cl : List vw_C} {D : va_G} {cn : Nat → String} {dA : Nat → ClassId} {B0 : Nat}
variable {nst : List (String × Nat × MethodName × String)} {WS : List Cond} {yv : Nat → MethodName} {cb : Nat → ByteArray} {ow : Nat → Nat}
variable {dfl : Nat → List Value} {tyF : Nat → Nat → FieldType} {km : Nat → Option (List (Nat × aEn))}
set_option maxHeartbeats 8000000 in
theorem kSound (hgw : ∀ w ∈ WS, goodWord w = true) (hcls : kCls cl dfl tyF WS) (hkm : ∀ mid code, km mid = some code → plainName (yv mid).cls = true ∧ (yv mid).cls = cn (ow mid) ∧ (yv mid).name = "<init>" ∧ ∀ q ∈ code, kEk cl cn yv cb nst WS (ow mid) true (cb mid) q) :
    ∀ (d mid b : Nat) (hs hs' : List aOb), kRun dfl tyF km d mid b hs = some hs' → kMet l D cl dA B0 nst WS yv cb d mid b hs hs' := by
  intro d
  induction d with
  | zero => intro mid b hs hs' h; cases h
  | succ d ih =>
    intro mid b hs hs' h
    unfold kRun at h
    split at h
    · rename_i code hcode
      obtain ⟨m1, m2, m3, m4⟩ := hkm mid code hcode
      have hmono : ∀ mid b hs hs', kRun dfl tyF km d mid b hs = some hs' → hs.length ≤ hs'.length ∧ kSum hs ≤ kSum hs' := fun mid b hs hs' h => ⟨(ih mid b hs hs' h).1, (ih mid b hs hs' h).2.1⟩
      obtain ⟨g1, g2⟩ := kLp_mono hmono 400 h
      refine ⟨g1, g2, fun ad => ?_⟩
      refine Met.ofW (cc := cb mid) (maxL := 1) (ret := none) m1 rfl ?_
      intro p e s m args below meth c s₁ B hml hv
      obtain ⟨rfl, hP, hD, hK, hdA, hB, hN⟩ := hv
      have hts := atoms_spec (ws := Cond.code (yv mid) (cb mid) 1 none :: WS) B.pre
      have hown : s.vm.findClass (yv mid).cls = some m.cls := findClass_of_methodNamed B.named
      rw [m2] at hown
      have hin : meth.name = "<init>" := ((name_of_methodNamed B.named B.method).1).trans m3
      have key : ∀ (n : Nat) (st : kSt), kLp dfl tyF (kRun dfl tyF km d) code n st = some hs' → ∀ (ad' : Nat → Nat) (H : Heap) (locs : List Loc) (ls : Array Slot) (cells slots : Nat), (∀ i, i < hs.length ∨ 1000 ≤ i → ad' i = ad i) → hs.length ≤ st.2.2.2.length → cells + hs.length = st.2.2.2.length → slots + kSum hs = kSum st.2.2.2 → aLr ad' 1 ls st.2.1 → va_P D cl (kWs dA ad' st.2.2.2) H → va_D (aA B0) (kWs dA ad' st.2.2.2) → va_S (aA B0) s.heap H locs →
          W p l e (kRm (d + 1) (hs'.length - hs.length) (kSum hs' - kSum hs)) s m [Value.ref (ad b)].toArray below meth c H locs cells slots (MQ below (kQc D cl dA B0 ad hs hs') [Value.ref (ad b)].toArray s (hs'.length - hs.length) (kSum hs' - kSum hs) (aA B0)) (F0 m st.1 ls (st.2.2.1.map (aVm ad'))) := by
        intro n
        induction n with
        | zero => intro st h; cases h
        | succ n ihn =>
          intro st h ad' H locs ls cells slots ha hle hce hsl hL hP hD hS
          obtain ⟨pc, L, S, hs1⟩ := st
          unfold kLp at h
          cases hst : kStep dfl tyF (kRun dfl tyF km d) code (pc, L, S, hs1) with
          | none => rw [hst] at h; cases h
          | some o =>
            rw [hst] at h
            refine kStepW (ini := true) (hs0 := hs) (d := d) (own := ow mid) (cn := cn) B.exec B.bytes hml hown (fun w hw => hts w (List.mem_cons_of_mem _ hw)) hgw hK hdA hB hN hcls (fun _ => hin) ih (by show d + 9 ≤ d + 1 + 8; omega) (by show 80 * d + 280 ≤ 80 * (d + 1) + 200; omega) m4 hst hL hP hD hS hce hsl hle (fun st' ho => ?_) (fun pc' L' S' hs2 ho ad2 H' locs' ls' cells' slots' ha2 hle2 hce2 hsl2 hL2 hP2 hD2 hS2 => ?_) (fun ho hSn hdg => ?_)
            · subst ho
              have h' : kLp dfl tyF (kRun dfl tyF km d) code n st' = some hs' := h
              obtain ⟨q1, q2⟩ := kLp_mono hmono n h'
              have e1 : (kRm (d + 1) (hs'.length - hs.length) (kSum hs' - kSum hs)).cells = hs'.length - hs.length := rfl
              have e2 : (kRm (d + 1) (hs'.length - hs.length) (kSum hs' - kSum hs)).slots = kSum hs' - kSum hs := rfl
              have g1' : hs.length ≤ hs'.length := g1
              have g2' : kSum hs ≤ kSum hs' := g2
              exact ⟨by omega, by omega⟩
            · subst ho
              exact ihn _ h ad2 H' locs' ls' cells' slots' (fun i hi => (ha2 i (by rcases hi with hi | hi; exact Or.inl (Nat.lt_of_lt_of_le hi hle); exact Or.inr hi)).trans (ha i hi)) (Nat.le_trans hle hle2) hce2 hsl2 hL2 hP2 hD2 hS2
            · subst ho
              have h' : some hs1 = some hs' := h
              cases h'
              have e1 : cells = hs'.length - hs.length := by have hce' : cells + hs.length = hs'.length := hce; omega
              have e2 : slots = kSum hs' - kSum hs := by have hsl' : slots + kSum hs = kSum hs' := hsl; omega
              subst e1
              subst e2
              exact W.vret B.exec B.bytes B.returns (fun t ht _ => ⟨rfl, ⟨ad', ha, by rw [ht]; exact hP, hD⟩, hS.F ht⟩) hS.2.2 hdg B.notSynchronized
      rw [lg_entry_eq]
      exact key 400 _ h ad s.heap [] _ 0 0 (fun _ _ => rfl) (Nat.le_refl _) (Nat.zero_add _) (Nat.zero_add _) (aLr_entry ad [.ref b] (n := 1) (Nat.le_refl _)) hP hD va_S.rf
    · cases h
end KSo
theorem kTo_mono {stop : Nat} {dfl : Nat → List Value} {tyF : Nat → Nat → FieldType} {run : Nat → Nat → List aOb → Option (List aOb)} {code : List (Nat × aEn)} (hrun : ∀ mid b hs hs', run mid b hs = some hs' → hs.length ≤ hs'.length ∧ kSum hs ≤ kSum hs') : ∀ (n : Nat) {st st' : kSt}, kTo stop dfl tyF run code n st = some st' → st.2.2.2.length ≤ st'.2.2.2.length ∧ kSum st.2.2.2 ≤ kSum st'.2.2.2
  | 0, st, st', h => by cases h
  | n + 1, st, st', h => by
    unfold kTo at h
    split at h
    · rename_i st1 hst
      obtain ⟨h1, h2⟩ := (kStep_mono hrun hst).1 _ rfl
      split at h
      · cases h
        exact ⟨h1, h2⟩
      · obtain ⟨h3, h4⟩ := kTo_mono hrun n h
        exact ⟨Nat.le_trans h1 h3, Nat.le_trans h2 h4⟩
    · cases h
