/-! ===== CALLS AND METHODS: what the abstract machine's run of a method says is a contract of it ===== -/
/-- how many cells a result may have cost -/
def aMc (r : aRs) : Nat := match r with
  | .inl _ => 0
  | .inr _ => 1
def aRm (d k : Nat) : Room := { frames := d + 8, cells := k, slots := 6 * k, locals := 80 * d + 200 }
theorem aTh_some {ρ : Type} {o : ρ} {hd : Option (List (Nat × Nat × Nat))} {pc k : Nat} {go : Nat → Option ρ} {out : Option ρ} (h : aTh hd pc k go out = some o) : (hd = none ∧ out = some o) ∨ ∃ l t, hd = some l ∧ aHd pc k l = some t ∧ go t = some o := by
  unfold aTh at h
  split at h
  · exact Or.inl ⟨rfl, h⟩
  · split at h
    · exact Or.inr ⟨_, _, rfl, ‹_›, h⟩
    · cases h
theorem aCall_some {ρ : Type} {o : ρ} {kd : Nat → aKd} {mi : Nat → Nat × Nat × Bool × Option Nat} {run : Nat → List Value → aH → Option (aRs × aH)} {hd : Option (List (Nat × Nat × Nat))} {ret : aRs × aH → Option ρ} {go : Nat → List (Option Value) → List Value → aH → Option ρ} {pc : Nat} {L : List (Option Value)} {S : List Value} {σ : aH} {mid : Nat}
    (h : aCall kd mi run hd ret go pc L S σ mid = some o) :
    (mi mid).1 ≤ S.length ∧ ((S.drop (mi mid).1).map fun v => v.category).sum ≤ 8 ∧ (∀ ci, (mi mid).2.2.2 = some ci → ∃ b as', (S.take (mi mid).1).reverse = .ref b :: as' ∧ ((∃ fl, kd b = .inr (.inl (ci, fl))) ∨ ∃ nm vs, kd b = .inr (.inr (.inr (ci, nm, vs))))) ∧
    ∃ r σ2, run mid (S.take (mi mid).1).reverse σ = some (r, σ2) ∧ ((∃ v : Option Value, r = .inl v ∧ (∀ ad : Nat → Nat, v.toList.map (aVm ad) = v.toList) ∧ go (pc + 3) L (v.toList ++ S.drop (mi mid).1) σ2 = some o) ∨ ∃ k, r = .inr k ∧ aTh hd pc k (fun t => go t L [] σ2) (ret (.inr k, σ2)) = some o) := by
  unfold aCall at h
  split at h
  rename_i na rt th rc e
  rw [e]
  obtain ⟨⟨h1, h2⟩, k1⟩ := aIf_some h
  obtain ⟨k2, k3⟩ := aGd_some k1
  refine ⟨h1, h2, k3, ?_⟩
  split at k2
  · unfold aCV at k2
    split at k2
    · rename_i σ2 hr
      exact ⟨_, σ2, hr, Or.inl ⟨none, rfl, fun _ => rfl, k2⟩⟩
    · cases k2
  · unfold aCI at k2
    split at k2
    · rename_i v σ2 hr
      exact ⟨_, σ2, hr, Or.inl ⟨some (.int v), rfl, fun _ => rfl, k2⟩⟩
    · cases k2
  · unfold aCL at k2
    split at k2
    · rename_i v σ2 hr
      exact ⟨_, σ2, hr, Or.inl ⟨some (.long v), rfl, fun _ => rfl, k2⟩⟩
    · cases k2
  · unfold aXV at k2
    split at k2
    · rename_i σ2 hr
      exact ⟨_, σ2, hr, Or.inl ⟨none, rfl, fun _ => rfl, k2⟩⟩
    · rename_i k σ2 hr
      exact ⟨_, σ2, hr, Or.inr ⟨k, rfl, k2⟩⟩
    · cases k2
  · unfold aXI at k2
    split at k2
    · rename_i v σ2 hr
      exact ⟨_, σ2, hr, Or.inl ⟨some (.int v), rfl, fun _ => rfl, k2⟩⟩
    · rename_i k σ2 hr
      exact ⟨_, σ2, hr, Or.inr ⟨k, rfl, k2⟩⟩
    · cases k2
  · cases k2
section ACall
variable {p : Program} {l : Launch} {e : Env} {R : Room} {s : State} {m : MethodId} {args : Array Value} {below : List Frame} {meth : Method} {c : Code} {H : Heap} {locs : List Loc} {cells slots : Nat} {Q : State → Prop}
variable {cc : ByteArray} {pc : Nat} {ls : Array Slot}
variable {N nL own : Nat} {kd : Nat → aKd} {mi : Nat → Nat × Nat × Bool × Option Nat} {D : va_G} {cl : List vw_C} {cN cn : Nat → String} {fn : Nat → Nat → String × String × String} {dA : Nat → ClassId} {ad : Nat → Nat} {B0 : Nat}
variable {stt : List (String × String × String × Value)} {strs : List (String × Nat × String × Nat)} {nst : List (String × Nat × MethodName × String)} {cst : List Cond} {WS : List Cond}
variable {run : Nat → List Value → aH → Option (aRs × aH)} {hd : Option (List (Nat × Nat × Nat))} {kl : List (Nat × List Nat)}
variable {yv : Nat → MethodName} {cb : Nat → ByteArray} {mt : Nat → Option aMt} {xn : Nat → String}
/-- a method's start: its arguments, the world -/
def aPc (N : Nat) (kd : Nat → aKd) (D : va_G) (cl : List vw_C) (fn : Nat → Nat → String × String × String) (dA : Nat → ClassId) (ad : Nat → Nat) (B0 : Nat) (stt : List (String × String × String × Value)) (strs : List (String × Nat × String × Nat)) (nst : List (String × Nat × MethodName × String)) (cst : List Cond) (as : List Value) (σ : aH) : Array Value → State → Prop :=
  va_Pc (as.map (aVm ad)) (fun U => va_P D cl (aWs N dA ad kd σ) U.heap ∧ va_K D cl (aTys dA) U ∧ aCn kd fn stt strs nst cst ad B0 U U.heap)
/-- its end, with what it gives -/
def aQ (N : Nat) (kd : Nat → aKd) (D : va_G) (cl : List vw_C) (dA : Nat → ClassId) (ad : Nat → Nat) (B0 : Nat) (r : aRs) (σ : aH) : Array Value → State → Outcome → State → Prop := fun _ st o t => (∃ v, r = .inl v ∧ o = .returned v) ∧ va_P D cl (aWs N dA ad kd σ) t.heap ∧ va_F (aA B0) st t
/-- its end, with what it throws -/
def aX (N : Nat) (kd : Nat → aKd) (D : va_G) (cl : List vw_C) (dA : Nat → ClassId) (ad : Nat → Nat) (B0 : Nat) (xn : Nat → String) (r : aRs) (σ : aH) : String → State → State → Prop := fun E st t => (∃ k, r = .inr k ∧ E = xn k) ∧ va_P D cl (aWs N dA ad kd σ) t.heap ∧ va_F (aA B0) st t
theorem aPc_blind {as : List Value} {σ : aH} : FrameBlind (aPc N kd D cl fn dA ad B0 stt strs nst cst as σ) := by
  intro a U g mk h
  obtain ⟨h1, h2, h3, h4⟩ := h
  exact ⟨h1, h2, va_K.moved (u := U) (U := U.calling g mk a) (Vm.Alike.refl U.vm) h3, h4.calling⟩
/-- behind a call -/
theorem aBack {st0 rest : List Value} {r : aRs} {σ2 : aH} {aa : Array Value} (hr : vx_Run p l e R s m args below meth c H locs cells slots (aMc r) (6 * aMc r) (F0 m pc ls st0) rest (aQ N kd D cl dA ad B0 r σ2 aa) (aX N kd D cl dA ad B0 xn r σ2) (aA B0)) (hS : va_S (aA B0) s.heap H locs)
    (kk : ∀ (v : Option Value) (H1 : Heap) (locs1 : List Loc), r = .inl v → va_P D cl (aWs N dA ad kd σ2) H1 → va_S (aA B0) s.heap H1 locs1 → W p l e R s m args below meth c H1 locs1 (cells + aMc r) (slots + 6 * aMc r) Q (F0 m (pc + 3) ls (v.toList ++ rest)))
    (kx : ∀ k q ce H1 locs1, r = .inr k → va_P D cl (aWs N dA ad kd σ2) H1 → va_S (aA B0) s.heap H1 locs1 → H1[q]? = some ce → ce.vm = .none → s.vm.findClass (xn k) = some ce.cls → vx_W p l e R s m args below meth c H1 locs1 (cells + aMc r) (slots + 6 * aMc r) Q (F0 m pc ls rest) q) :
    W p l e R s m args below meth c H locs cells slots Q (F0 m pc ls st0) := by
  intro T hT X
  rcases hr T hT X with ⟨v, st₀, t, T', L, h0, X', hL, e1, e2, ⟨⟨v', hr', hv⟩, hP, hF⟩, st⟩ | ⟨q, st₀, t, T', L, E, ce, h0, X', hL, e1, e2, ⟨⟨k, hr', hE⟩, hP, hF⟩, hce, hcv, hcl, st⟩
  · cases hv
    obtain ⟨k1, k2, k3⟩ := vx_keep h0 e1 hS (fun _ _ h => h) (fun _ h => h) hL hF
    obtain ⟨t2, a1, b1⟩ := kk v T'.heap (locs ++ L) hr' (by rw [e1]; exact hP) k3 T' rfl X'
    exact ⟨t2, st t2 a1, b1⟩
  · subst hE
    obtain ⟨k1, k2, k3⟩ := vx_keep h0 e1 hS (fun _ _ h => h) (fun _ h => h) hL hF
    obtain ⟨t2, a1, b1⟩ := kx k q ce T'.heap (locs ++ L) hr' (by rw [e1]; exact hP) k3 (by rw [e1]; exact hce) hcv hcl T' rfl X'
    exact ⟨t2, st.trans a1, b1⟩
/-- a method's words -/
def aWm (yv : Nat → MethodName) (cb : Nat → ByteArray) (WS : List Cond) (mid : Nat) (M : aMt) : List Cond := Cond.code (yv mid) (cb mid) M.2.1 M.1 :: WS
/-- a contract of a method, out of a run -/
def aMet (l : Launch) (N : Nat) (kd : Nat → aKd) (D : va_G) (cl : List vw_C) (fn : Nat → Nat → String × String × String) (dA : Nat → ClassId) (ad : Nat → Nat) (B0 : Nat) (stt : List (String × String × String × Value)) (strs : List (String × Nat × String × Nat)) (nst : List (String × Nat × MethodName × String)) (cst : List Cond) (WS : List Cond) (yv : Nat → MethodName) (cb : Nat → ByteArray) (mt : Nat → Option aMt) (xn : Nat → String) (d mid : Nat) (as : List Value) (σ : aH) (r : aRs) (σ2 : aH) : Prop :=
  ∀ M, mt mid = some M → vx_Met l (yv mid) (aWm yv cb WS mid M) (aRm d (aMc r)) (aPc N kd D cl fn dA ad B0 stt strs nst cst as σ) (aQ N kd D cl dA ad B0 r σ2) (aX N kd D cl dA ad B0 xn r σ2) (aMc r) (6 * aMc r) (aA B0)
/-- what is known of a method that is called -/
def aMok (yv : Nat → MethodName) (cb : Nat → ByteArray) (mt : Nat → Option aMt) (WS : List Cond) (mid n : Nat) : Prop :=
  ∃ M, mt mid = some M ∧ Cond.code (yv mid) (cb mid) M.2.1 M.1 ∈ WS ∧ Cond.initialized (yv mid).cls ∈ WS ∧ (yv mid).cls ≠ "java/lang/invoke/MethodHandle" ∧ (yv mid).cls ≠ "java/lang/invoke/VarHandle" ∧ (parseMethodDescriptor (yv mid).desc).map (fun d => d.parameters.length) = some n ∧ M.2.1 ≤ 60
/-- a link to a method: by its own class, or a nest mate's -/
def aLk (cn : Nat → String) (yv : Nat → MethodName) (nst : List (String × Nat × MethodName × String)) (WS : List Cond) (q : Nat × Nat × Nat) : Prop := Cond.methodLink (cn q.1) q.2.1 (yv q.2.2) ∈ WS ∨ ∃ host, (cn q.1, q.2.1, yv q.2.2, host) ∈ nst
set_option maxHeartbeats 4000000 in
theorem aCallS (hx : p.tables.exec = Jvm.exec) (hb : c.code = cc) (hml : c.maxLocals = nL) (hown : s.vm.findClass (cn own) = some m.cls) (hts : ∀ w ∈ WS, w.before args s = true) (hK : va_K D cl (aTys dA) s) (hC : aCn kd fn stt strs nst cst ad B0 s s.heap)
    (hgw : ∀ w ∈ WS, goodWord w = true) {d i mid : Nat} {L : List (Option Value)} {S : List Value} {σ : aH} {o : aSt ⊕ (aRs × aH)} {ret : aRs × aH → Option (aSt ⊕ (aRs × aH))} {go : Nat → List (Option Value) → List Value → aH → Option (aSt ⊕ (aRs × aH))}
    (hIH : ∀ as σ r σ2, run mid as σ = some (r, σ2) → aMet l N kd D cl fn dA ad B0 stt strs nst cst WS yv cb mt xn d mid as σ r σ2)
    (hlk : aLk cn yv nst WS (own, i, mid)) (hmk : aMok yv cb mt WS mid (mi mid).1) (hst : Cond.static (yv mid) ∈ WS)
    (hdg : decode cc pc = .ok (.invokestatic i, 3)) (hRf : d + 9 ≤ R.frames) (hRl : 80 * d + 280 ≤ R.locals)
    (hL : aLr ad nL ls L) (hP : va_P D cl (aWs N dA ad kd σ) H) (hS : va_S (aA B0) s.heap H locs)
    (h : aCall kd mi run hd ret go pc L S σ mid = some o)
    (hroom : ∀ r σ2, run mid (S.take (mi mid).1).reverse σ = some (r, σ2) → cells + aMc r ≤ R.cells ∧ slots + 6 * aMc r ≤ R.slots)
    (kk : ∀ (v : Option Value) (σ2 : aH), (∀ ad : Nat → Nat, v.toList.map (aVm ad) = v.toList) → go (pc + 3) L (v.toList ++ S.drop (mi mid).1) σ2 = some o → ∀ H1 locs1, va_P D cl (aWs N dA ad kd σ2) H1 → va_S (aA B0) s.heap H1 locs1 → W p l e R s m args below meth c H1 locs1 cells slots Q (F0 m (pc + 3) ls (v.toList ++ (S.drop (mi mid).1).map (aVm ad))))
    (kx : ∀ k σ2, run mid (S.take (mi mid).1).reverse σ = some (.inr k, σ2) → aTh hd pc k (fun t => go t L [] σ2) (ret (.inr k, σ2)) = some o → ∀ q ce H1 locs1, va_P D cl (aWs N dA ad kd σ2) H1 → va_S (aA B0) s.heap H1 locs1 → H1[q]? = some ce → ce.vm = .none → s.vm.findClass (xn k) = some ce.cls → vx_W p l e R s m args below meth c H1 locs1 (cells + 1) (slots + 6) Q (F0 m pc ls ((S.drop (mi mid).1).map (aVm ad))) q) :
    W p l e R s m args below meth c H locs cells slots Q (F0 m pc ls (S.map (aVm ad))) := by
  obtain ⟨h1, h2, -, r, σ2, hrun, hres⟩ := aCall_some h
  obtain ⟨M, hM, w1, w2, w3, w4, w5, w6⟩ := hmk
  have hmet := hIH _ _ _ _ hrun M hM
  have hG : GoodIn WS (aWm yv cb WS mid M) := by
    intro w hw
    rcases List.mem_cons.mp hw with rfl | hw
    · exact ⟨w1, good_of_word (hgw _ w1)⟩
    · exact ⟨hw, good_of_word (hgw _ hw)⟩
  have hpre : ∀ U : State, U.heap = H → s.WarmedH U.vm → aPc N kd D cl fn dA ad B0 stt strs nst cst (S.take (mi mid).1).reverse σ ((S.take (mi mid).1).reverse.map (aVm ad)).toArray U := fun U hU hW => ⟨rfl, by rw [hU]; exact hP, hK.moved hW.alike, by rw [hU]; exact (hC.kept hS.2.1).warm hW⟩
  have hstk : (F0 m pc ls (S.map (aVm ad))).stack = ((S.take (mi mid).1).reverse.map (aVm ad)).reverse ++ (S.drop (mi mid).1).map (aVm ad) := by
    show S.map (aVm ad) = _
    rw [← List.map_reverse, List.reverse_reverse, ← List.map_append, List.take_append_drop]
  have hlen : ((S.take (mi mid).1).reverse.map (aVm ad)).length = (mi mid).1 := by
    rw [List.length_map, List.length_reverse, List.length_take]
    omega
  have hcat : (((S.drop (mi mid).1).map (aVm ad)).map fun v => v.category).sum ≤ 8 := by
    have e7 : (((S.drop (mi mid).1).map (aVm ad)).map fun v => v.category) = (S.drop (mi mid).1).map fun v => v.category := by
      rw [List.map_map]
      exact List.map_congr_left fun v _ => aVm_cat ad v
    rw [e7]
    exact h2
  have hR : (aRm d (aMc r)).frames + 1 ≤ R.frames ∧ 8 + (M.2.1 + 11) + (aRm d (aMc r)).locals ≤ R.locals := ⟨by show d + 8 + 1 ≤ _; omega, by show 8 + (M.2.1 + 11) + (80 * d + 200) ≤ _; omega⟩
  have hrun2 : vx_Run p l e R s m args below meth c H locs cells slots (aMc r) (6 * aMc r) (F0 m pc ls (S.map (aVm ad))) ((S.drop (mi mid).1).map (aVm ad)) (aQ N kd D cl dA ad B0 r σ2 ((S.take (mi mid).1).reverse.map (aVm ad)).toArray) (aX N kd D cl dA ad B0 xn r σ2) (aA B0) := by
    rcases hlk with hl | ⟨host, hl⟩
    · exact vx_runS (n := (mi mid).1) (own := cn own) (index := i) (bytes := cb mid) (maxL := M.2.1) (ret := M.1) ⟨hx, hb, hml, hown, hts⟩ hmet ⟨callB_of _ hts hG rfl rfl rfl (hts _ w2) (hts _ hl) ⟨w3, w4, w5⟩ hR, hts _ hst⟩ ⟨aPc_blind, hpre⟩ rfl hlen hL.size hstk (lv_room hcat) hdg (hroom _ _ hrun)
    · exact vx_runSN (n := (mi mid).1) (own := cn own) (index := i) (bytes := cb mid) (maxL := M.2.1) (ret := M.1) ⟨hx, hb, hml, hown, hts⟩ hmet ⟨va_cnB _ hts hG rfl rfl rfl (hC.2.2.2.2.1 _ hl) (hts _ w2) ⟨w3, w4, w5⟩ hR, hts _ hst, trivial⟩ ⟨aPc_blind, hpre⟩ rfl hlen hL.size hstk (lv_room hcat) hdg (hroom _ _ hrun)
  refine aBack hrun2 hS (fun v H1 locs1 hr hP1 hS1 => ?_) (fun k q ce H1 locs1 hr hP1 hS1 hq hce hcl => ?_)
  · rcases hres with ⟨v', hv', hvm, hgo⟩ | ⟨k, hk, -⟩
    · subst hr
      cases hv'
      exact kk v σ2 hvm hgo H1 locs1 hP1 hS1
    · rw [hr] at hk; cases hk
  · rcases hres with ⟨v', hv', -, -⟩ | ⟨k', hk, hth⟩
    · rw [hr] at hv'; cases hv'
    · subst hr
      cases hk
      exact kx k σ2 hrun hth q ce H1 locs1 hP1 hS1 hq hce hcl
set_option maxHeartbeats 4000000 in
theorem aCallV (hx : p.tables.exec = Jvm.exec) (hb : c.code = cc) (hml : c.maxLocals = nL) (hown : s.vm.findClass (cn own) = some m.cls) (hts : ∀ w ∈ WS, w.before args s = true) (hK : va_K D cl (aTys dA) s) (hC : aCn kd fn stt strs nst cst ad B0 s s.heap)
    (hgw : ∀ w ∈ WS, goodWord w = true) {d i mid : Nat} {L : List (Option Value)} {S : List Value} {σ : aH} {o : aSt ⊕ (aRs × aH)} {ret : aRs × aH → Option (aSt ⊕ (aRs × aH))} {go : Nat → List (Option Value) → List Value → aH → Option (aSt ⊕ (aRs × aH))}
    (hIH : ∀ as σ r σ2, run mid as σ = some (r, σ2) → aMet l N kd D cl fn dA ad B0 stt strs nst cst WS yv cb mt xn d mid as σ r σ2)
    (hlk : aLk cn yv nst WS (own, i, mid)) (hmk : aMok yv cb mt WS mid ((mi mid).1 - 1)) (hst : Cond.instanceMethod (yv mid) ∈ WS ∧ Cond.selects (yv mid).cls (yv mid) (yv mid) ∈ WS) (hrc : ∃ ci, (mi mid).2.2.2 = some ci ∧ cN ci = (yv mid).cls) (hcN : ∀ ci q, cl[ci]? = some q → q.1 = cN ci) (hkN : ∀ i ci nm vs, kd i = .inr (.inr (.inr (ci, nm, vs))) → nm = cN ci)
    (hw2 : ∀ i ci fl, kd i = .inr (.inl (ci, fl)) → i < N ∧ ∃ (C : String) (T : u_T), cl[ci]? = some (C, T, fl.length) ∧ ∀ k tag, fl[k]? = some (.inr tag) → parseFieldDescriptor (T k).2.2.1 = some (aFt tag))
    (hdg : decode cc pc = .ok (.invokevirtual i, 3)) (hRf : d + 9 ≤ R.frames) (hRl : 80 * d + 280 ≤ R.locals)
    (hL : aLr ad nL ls L) (hP : va_P D cl (aWs N dA ad kd σ) H) (hS : va_S (aA B0) s.heap H locs)
    (h : aCall kd mi run hd ret go pc L S σ mid = some o)
    (hroom : ∀ r σ2, run mid (S.take (mi mid).1).reverse σ = some (r, σ2) → cells + aMc r ≤ R.cells ∧ slots + 6 * aMc r ≤ R.slots)
    (kk : ∀ (v : Option Value) (σ2 : aH), (∀ ad : Nat → Nat, v.toList.map (aVm ad) = v.toList) → go (pc + 3) L (v.toList ++ S.drop (mi mid).1) σ2 = some o → ∀ H1 locs1, va_P D cl (aWs N dA ad kd σ2) H1 → va_S (aA B0) s.heap H1 locs1 → W p l e R s m args below meth c H1 locs1 cells slots Q (F0 m (pc + 3) ls (v.toList ++ (S.drop (mi mid).1).map (aVm ad))))
    (kx : ∀ k σ2, run mid (S.take (mi mid).1).reverse σ = some (.inr k, σ2) → aTh hd pc k (fun t => go t L [] σ2) (ret (.inr k, σ2)) = some o → ∀ q ce H1 locs1, va_P D cl (aWs N dA ad kd σ2) H1 → va_S (aA B0) s.heap H1 locs1 → H1[q]? = some ce → ce.vm = .none → s.vm.findClass (xn k) = some ce.cls → vx_W p l e R s m args below meth c H1 locs1 (cells + 1) (slots + 6) Q (F0 m pc ls ((S.drop (mi mid).1).map (aVm ad))) q) :
    W p l e R s m args below meth c H locs cells slots Q (F0 m pc ls (S.map (aVm ad))) := by
  obtain ⟨h1, h2, hgd, r, σ2, hrun, hres⟩ := aCall_some h
  obtain ⟨ci, hci, hciN⟩ := hrc
  obtain ⟨b, as', has, hkb⟩ := hgd ci hci
  have hrecv : ∃ cellB : Cell, H[ad b]? = some cellB ∧ cellB.vm.isStatics = false ∧ s.vm.findClass (yv mid).cls = some cellB.cls := by
    rw [← hciN]
    rcases hkb with ⟨fl, hk⟩ | ⟨nm, vs, hk⟩
    · obtain ⟨hbN, C, T, hcl, -⟩ := hw2 _ _ _ hk
      have := va_recv hK hP hcl (q0 := b) (fs := fl.mapIdx (aFv ad σ b)) (by rw [aWs_get hbN, aEl_obj hk])
      rwa [hcN _ _ hcl] at this
    · have := va_Orecv (hC.2.1 _ _ _ _ hk).1 hS
      rwa [hkN _ _ _ _ hk] at this
  obtain ⟨M, hM, w1, w2, w3, w4, w5, w6⟩ := hmk
  have hmet := hIH _ _ _ _ hrun M hM
  have hG : GoodIn WS (aWm yv cb WS mid M) := by
    intro w hw
    rcases List.mem_cons.mp hw with rfl | hw
    · exact ⟨w1, good_of_word (hgw _ w1)⟩
    · exact ⟨hw, good_of_word (hgw _ hw)⟩
  have hpre : ∀ U : State, U.heap = H → s.WarmedH U.vm → aPc N kd D cl fn dA ad B0 stt strs nst cst (S.take (mi mid).1).reverse σ (Value.ref (ad b) :: as'.map (aVm ad)).toArray U := fun U hU hW => ⟨by rw [has]; rfl, by rw [hU]; exact hP, hK.moved hW.alike, by rw [hU]; exact (hC.kept hS.2.1).warm hW⟩
  have hstk : (F0 m pc ls (S.map (aVm ad))).stack = (as'.map (aVm ad)).reverse ++ .ref (ad b) :: (S.drop (mi mid).1).map (aVm ad) := by
    show S.map (aVm ad) = _
    have e1 : S.take (mi mid).1 = as'.reverse ++ [.ref b] := by rw [← List.reverse_reverse (S.take (mi mid).1), has, List.reverse_cons]
    have e2 : S = (as'.reverse ++ [.ref b]) ++ S.drop (mi mid).1 := by rw [← e1, List.take_append_drop]
    rw [← List.map_reverse]
    conv => lhs; rw [e2]
    simp [aVm]
  have hlen0 : (S.take (mi mid).1).reverse.length = (mi mid).1 := by
    rw [List.length_reverse, List.length_take]
    omega
  have hlen : (as'.map (aVm ad)).length = (mi mid).1 - 1 := by
    rw [has, List.length_cons] at hlen0
    rw [List.length_map]
    omega
  have hcat : (((S.drop (mi mid).1).map (aVm ad)).map fun v => v.category).sum ≤ 8 := by
    have e7 : (((S.drop (mi mid).1).map (aVm ad)).map fun v => v.category) = (S.drop (mi mid).1).map fun v => v.category := by
      rw [List.map_map]
      exact List.map_congr_left fun v _ => aVm_cat ad v
    rw [e7]
    exact h2
  have hR : (aRm d (aMc r)).frames + 1 ≤ R.frames ∧ 8 + (M.2.1 + 11) + (aRm d (aMc r)).locals ≤ R.locals := ⟨by show d + 8 + 1 ≤ _; omega, by show 8 + (M.2.1 + 11) + (80 * d + 200) ≤ _; omega⟩
  have hrun2 : vx_Run p l e R s m args below meth c H locs cells slots (aMc r) (6 * aMc r) (F0 m pc ls (S.map (aVm ad))) ((S.drop (mi mid).1).map (aVm ad)) (aQ N kd D cl dA ad B0 r σ2 (Value.ref (ad b) :: as'.map (aVm ad)).toArray) (aX N kd D cl dA ad B0 xn r σ2) (aA B0) := by
    rcases hlk with hl | ⟨host, hl⟩
    · exact vx_runV (n := (mi mid).1 - 1) (own := cn own) (index := i) (bytes := cb mid) (maxL := M.2.1) (ret := M.1) ⟨hx, hb, hml, hown, hts⟩ hmet ⟨callB_of _ hts hG rfl rfl rfl (hts _ w2) (hts _ hl) ⟨w3, w4, w5⟩ hR, hts _ hst.1, hts _ hst.2⟩ ⟨aPc_blind, hrecv, hpre⟩ rfl hlen hL.size hstk (lv_room hcat) hdg (hroom _ _ hrun)
    · exact vx_runVN (n := (mi mid).1 - 1) (own := cn own) (index := i) (bytes := cb mid) (maxL := M.2.1) (ret := M.1) ⟨hx, hb, hml, hown, hts⟩ hmet ⟨va_cnB _ hts hG rfl rfl rfl (hC.2.2.2.2.1 _ hl) (hts _ w2) ⟨w3, w4, w5⟩ hR, hts _ hst.1, hts _ hst.2⟩ ⟨aPc_blind, hrecv, hpre⟩ rfl hlen hL.size hstk (lv_room hcat) hdg (hroom _ _ hrun)
  refine aBack hrun2 hS (fun v H1 locs1 hr hP1 hS1 => ?_) (fun k q ce H1 locs1 hr hP1 hS1 hq hce hcl => ?_)
  · rcases hres with ⟨v', hv', hvm, hgo⟩ | ⟨k, hk, -⟩
    · subst hr
      cases hv'
      exact kk v σ2 hvm hgo H1 locs1 hP1 hS1
    · rw [hr] at hk; cases hk
  · rcases hres with ⟨v', hv', -, -⟩ | ⟨k', hk, hth⟩
    · rw [hr] at hv'; cases hv'
    · subst hr
      cases hk
      exact kx k σ2 hrun hth q ce H1 locs1 hP1 hS1 hq hce hcl
end ACall
