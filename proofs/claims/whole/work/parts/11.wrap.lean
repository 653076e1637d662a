/-! ===== METHODS WITH A HANDLER TABLE, called by the law; the law's own steps ===== -/
theorem aHd_mem {pc k t : Nat} : ∀ {l : List (Nat × Nat × Nat)}, aHd pc k l = some t → (pc, k, t) ∈ l
  | [], h => by cases h
  | (p, j, u) :: l, h => by
    unfold aHd at h
    split at h
    · rename_i e
      have e2 := (Bool.and_eq_true _ _).mp e
      have h1 := aNat_beq e2.1
      have h2 := aNat_beq e2.2
      cases h
      subst h1; subst h2
      exact List.mem_cons_self
    · exact List.mem_cons_of_mem _ (aHd_mem h)
/-- what a handler is, in the class file -/
def aCt (cn : Nat → String) (xn : Nat → String) (nc : String × String) (cst WS : List Cond) (own : Nat) (cc : ByteArray) (hh : List (Nat × Nat × Nat × Nat)) (nL : Nat) (kl : List (Nat × List Nat)) (q : Nat × Nat × Nat) : Prop :=
  ∃ (pre : List ExceptionTableEntry) (x : ExceptionTableEntry) (suf : List ExceptionTableEntry), tableOf hh = pre ++ x :: suf ∧ (∀ z ∈ pre, covers z q.1 = false ∨ (z.catchType ≠ 0 ∧ ∃ nm : String, Cond.classLink (cn own) z.catchType nm ∈ WS ∧ (xn q.2.1, nm) = nc)) ∧ covers x q.1 = true ∧ x.catchType ≠ 0 ∧
    Cond.classLink (cn own) x.catchType (xn q.2.1) ∈ WS ∧ Cond.castable (xn q.2.1) (xn q.2.1) ∈ cst ∧
    ((∃ sl : Fin 4, decode cc x.handlerPc = .ok (.astore_n sl, 1) ∧ sl.val < nL ∧ q.2.2 = x.handlerPc + 1) ∨ ∃ sl : Nat, decode cc x.handlerPc = .ok (.astore sl, 2) ∧ sl < nL ∧ q.2.2 = x.handlerPc + 2) ∧
    ∃ ks, aLook q.2.2 kl = some ks ∧ ∀ i, i < nL → i ∈ ks
theorem aKills_none : ∀ (ks : List Nat) (L : List (Option Value)) (i : Nat) (v : Value), (aKills ks L)[i]? = some (some v) → i ∉ ks ∧ L[i]? = some (some v)
  | [], L, i, v, h => ⟨List.not_mem_nil, h⟩
  | k :: ks, L, i, v, h => by
    obtain ⟨h1, h2⟩ := aKills_none ks (L.set k none) i v h
    rw [List.getElem?_set] at h2
    split at h2
    · split at h2 <;> cases h2
    · rename_i e
      refine ⟨fun z => ?_, h2⟩
      rcases List.mem_cons.mp z with rfl | z
      · exact e rfl
      · exact h1 z
theorem aKills_len : ∀ (ks : List Nat) (L : List (Option Value)), (aKills ks L).length = L.length
  | [], _ => rfl
  | k :: ks, L => by
    show (aKills ks (L.set k none)).length = _
    rw [aKills_len ks, List.length_set]
section AWr
variable {l : Launch} {N : Nat} {kd : Nat → aKd} {mi : Nat → Nat × Nat × Bool × Option Nat} {D : va_G} {cl : List vw_C} {cN cn : Nat → String} {fn : Nat → Nat → String × String × String} {dA : Nat → ClassId} {ad : Nat → Nat} {B0 : Nat}
variable {stt : List (String × String × String × Value)} {strs : List (String × Nat × String × Nat)} {nst : List (String × Nat × MethodName × String)} {cst : List Cond} {WS : List Cond}
variable {fL pL : List (Nat × Nat × Nat × Nat)} {gL kL : List (Nat × Nat × Value)} {cL vL : List (Nat × Nat × Nat)} {yL : List (Nat × Nat)} {tL : List (Nat × Nat × Nat × Nat)}
variable {yv : Nat → MethodName} {cb : Nat → ByteArray} {ow : Nat → Nat} {mt : Nat → Option aMt} {xn : Nat → String} {xs : Nat → List String}
variable {p : Program} {e : Env} {s : State} {m : MethodId} {args : Array Value} {below : List Frame} {meth : Method} {c : Code}

variable {H : Heap} {locs : List Loc} {R : Room} {cells slots : Nat} {Q : State → Prop} {ls : Array Slot} {pc : Nat}
/-- behind a call, for any budget -/
theorem aBack2 {mc ms : Nat} {st0 rest : List Value} {r : aRs} {σ2 : aH} {aa : Array Value} (hr : vx_Run p l e R s m args below meth c H locs cells slots mc ms (F0 m pc ls st0) rest (aQ N kd D cl dA ad B0 r σ2 aa) (aX N kd D cl dA ad B0 xn r σ2) (aA B0)) (hS : va_S (aA B0) s.heap H locs) {v : Option Value} (hv : r = .inl v)
    (kk : ∀ (H1 : Heap) (locs1 : List Loc), va_P D cl (aWs N dA ad kd σ2) H1 → va_S (aA B0) s.heap H1 locs1 → W p l e R s m args below meth c H1 locs1 (cells + mc) (slots + ms) Q (F0 m (pc + 3) ls (v.toList ++ rest))) :
    W p l e R s m args below meth c H locs cells slots Q (F0 m pc ls st0) := by
  intro T hT X
  rcases hr T hT X with ⟨v', st₀, t, T', L, h0, X', hL, e1, e2, ⟨⟨v'', hr', hv'⟩, hP, hF⟩, st⟩ | ⟨q, st₀, t, T', L, E, ce, h0, X', hL, e1, e2, ⟨⟨k, hr', hE⟩, hP, hF⟩, hce, hcv, hcl, st⟩
  · cases hv'
    rw [hv] at hr'
    cases hr'
    obtain ⟨k1, k2, k3⟩ := vx_keep h0 e1 hS (fun _ _ h => h) (fun _ h => h) hL hF
    obtain ⟨t2, a1, b1⟩ := kk T'.heap (locs ++ L) (by rw [e1]; exact hP) k3 T' rfl X'
    exact ⟨t2, st t2 a1, b1⟩
  · rw [hv] at hr'
    cases hr'
/-- a wrapper's start: as a method's, and that the one exception is no other -/
def aPcW (N : Nat) (kd : Nat → aKd) (D : va_G) (cl : List vw_C) (fn : Nat → Nat → String × String × String) (dA : Nat → ClassId) (ad : Nat → Nat) (B0 : Nat) (stt : List (String × String × String × Value)) (strs : List (String × Nat × String × Nat)) (nst : List (String × Nat × MethodName × String)) (cst : List Cond) (nc : String × String) (as : List Value) (σ : aH) : Array Value → State → Prop :=
  fun v U => aPc N kd D cl fn dA ad B0 stt strs nst cst as σ v U ∧ va_Nc nc.1 nc.2 U
def aWmW (yv : Nat → MethodName) (cb : Nat → ByteArray) (hh : Nat → List (Nat × Nat × Nat × Nat)) (WS : List Cond) (mid : Nat) (M : aMt) : List Cond := Cond.codeWith (yv mid) (cb mid) M.2.1 M.1 (hh mid) :: WS
variable {hh : Nat → List (Nat × Nat × Nat × Nat)} {nc : String × String}
set_option maxHeartbeats 8000000 in
theorem aFrameX (hl : l.stackTraces = false) (hgw : ∀ w ∈ WS, goodWord w = true)
    (hw1 : ∀ i t n, kd i = .inl (t, n) → i < N ∧ t < 4)
    (hw2 : ∀ i ci fl, kd i = .inr (.inl (ci, fl)) → i < N ∧ ∃ (C : String) (T : u_T), cl[ci]? = some (C, T, fl.length) ∧ ∀ k tag, fl[k]? = some (.inr tag) → parseFieldDescriptor (T k).2.2.1 = some (aFt tag))
    (hw3 : ∀ i ci nm vs, kd i = .inr (.inr (.inr (ci, nm, vs))) → cl[ci]? = none)
    (hw4 : ∀ (ci : Nat) (C : String) (T : u_T) (n : Nat), cl[ci]? = some (C, T, n) → (∃ ty0 : Nat → FieldType, ∀ k, k < n → parseFieldDescriptor (T k).2.2.1 = some (ty0 k)) ∧ (∀ a, a < n → ∀ b, b < n → a ≠ b → (T a).2.1 ≠ (T b).2.1) ∧ ∀ w ∈ u_ws C T n, w ∈ WS)
    (hcN : ∀ ci q, cl[ci]? = some q → q.1 = cN ci) (hkN : ∀ i ci nm vs, kd i = .inr (.inr (.inr (ci, nm, vs))) → nm = cN ci)
    (hD : ∀ σ, va_D (aA B0) (aWs N dA ad kd σ))
    (hfL : ∀ q ∈ fL, aFok cl cn fn WS q) (hpL : ∀ q ∈ pL, aPok cl cn WS q) (hgL : ∀ q ∈ gL, ∃ C n d, (C, n, d, q.2.2) ∈ stt ∧ Cond.fieldLink (cn q.1) q.2.1 C n d ∈ WS) (hkL : ∀ q ∈ kL, aKok cn strs WS q)
    (hyL : ∀ q ∈ yL, Cond.methodLink (cn q.1) q.2 arraycopyName ∈ WS ∧ Cond.native arraycopyName ∈ WS ∧ Cond.static arraycopyName ∈ WS ∧ Cond.initialized "java/lang/System" ∈ WS)
    (htL : ∀ q ∈ tL, Bundle.fit (xn q.2.2.2) = true ∧ (∀ n ∈ xs q.2.2.2, Bundle.fit n = true) ∧ (xs q.2.2.2).length ≤ 3 ∧ Cond.classLink (cn q.1) q.2.1 (xn q.2.2.2) ∈ WS ∧ Cond.initialized (xn q.2.2.2) ∈ WS ∧ ∀ w ∈ vx_at0 (cn q.1) q.2.2.1 (xn q.2.2.2) (xs q.2.2.2), w ∈ WS ∨ w ∈ cst)
    (hcL : ∀ q ∈ cL, aLk cn yv nst WS q ∧ aMok yv cb mt WS q.2.2 (mi q.2.2).1 ∧ Cond.static (yv q.2.2) ∈ WS)
    (hvL : ∀ q ∈ vL, aLk cn yv nst WS q ∧ aMok yv cb mt WS q.2.2 ((mi q.2.2).1 - 1) ∧ (Cond.instanceMethod (yv q.2.2) ∈ WS ∧ Cond.selects (yv q.2.2).cls (yv q.2.2) (yv q.2.2) ∈ WS) ∧ ∃ ci, (mi q.2.2).2.2.2 = some ci ∧ cN ci = (yv q.2.2).cls)
    (hmt : ∀ mid M, mt mid = some M → M.2.2.2.2 = none → plainFor (yv mid) = true ∧ (yv mid).cls = cn (ow mid) ∧ ∀ q ∈ M.2.2.1, aCk fL pL gL kL cL vL yL tL (ow mid) (cb mid) q = true)
    {d mid : Nat} {M : aMt} {r : aRs} {σf : aH} {hdl : List (Nat × Nat × Nat)} (hMh : M.2.2.2.2 = some hdl) (hcode : ∀ q ∈ M.2.2.1, aCk fL pL gL kL cL vL yL tL (ow mid) (cb mid) q = true) (hct : ∀ q ∈ hdl, aCt cn xn nc cst WS (ow mid) (cb mid) (hh mid) M.2.1 M.2.2.2.1 q)
    (hIH : ∀ mid as σ r σ2, aRun kd mi mt d mid as σ = some (r, σ2) → aMet l N kd D cl fn dA ad B0 stt strs nst cst WS yv cb mt xn d mid as σ r σ2)
    (hx : p.tables.exec = Jvm.exec) (hb : c.code = cb mid) (hml : c.maxLocals = M.2.1) (hr : meth.sig.returnType = M.1) (hlocks : meth.locks = false) (hown : s.vm.findClass (cn (ow mid)) = some m.cls) (htab : c.exceptionTable.toList = tableOf (hh mid)) (hnc : va_Nc nc.1 nc.2 s)
    (hts : ∀ w ∈ WS, w.before args s = true) (hK : va_K D cl (aTys dA) s) (hC : aCn kd fn stt strs nst cst ad B0 s s.heap) :
    ∀ (n : Nat) (st : aSt), aLp kd mi (aRun kd mi mt d) M n st = some (r, σf) → ∀ (cells : Nat), cells + n ≤ 40 → ∀ (H : Heap) (locs : List Loc) (ls : Array Slot), aLr ad M.2.1 ls st.2.1 → va_P D cl (aWs N dA ad kd st.2.2.2) H → va_S (aA B0) s.heap H locs →
      W p l e (aRm (d + 1) 40) s m args below meth c H locs cells (6 * cells) (vx_MQ below (aQ N kd D cl dA ad B0 r σf) (aX N kd D cl dA ad B0 xn r σf) args s 40 240 (aA B0)) (F0 m st.1 ls (st.2.2.1.map (aVm ad))) := by
  intro n
  induction n with
  | zero => intro st h; cases h
  | succ n ih =>
    intro st h cells hcells H locs ls hL hP hS
    obtain ⟨pc, L, S, σ⟩ := st
    rw [aLp_succ] at h
    cases ho : aStep0 kd mi (aRun kd mi mt d) M (pc, L, S, σ) with
    | none => rw [ho] at h; cases h
    | some o =>
      rw [ho] at h
      have hst := ho
      unfold aStep0 aStep at hst
      split at hst
      · rename_i ins im ns cv hlook
        rw [hMh] at hst
        have hck2 := (Bool.and_eq_true _ _).mp (hcode _ (aLook_mem hlook))
        have hnext : ∀ pc' L' S' σ' cells', cells' ≤ cells + 1 → o = .inl (pc', aDead M.2.2.2.1 pc' L', S', σ') → ∀ ls' H' locs', aLr ad M.2.1 ls' (aDead M.2.2.2.1 pc' L') → va_P D cl (aWs N dA ad kd σ') H' → va_S (aA B0) s.heap H' locs' → W p l e (aRm (d + 1) 40) s m args below meth c H' locs' cells' (6 * cells') (vx_MQ below (aQ N kd D cl dA ad B0 r σf) (aX N kd D cl dA ad B0 xn r σf) args s 40 240 (aA B0)) (F0 m pc' ls' (S'.map (aVm ad))) := by
          intro pc' L' S' σ' cells' hc' ho' ls' H' locs' hL' hP' hS'
          subst ho'
          exact ih _ h cells' (by omega) H' locs' ls' hL' hP' hS'
        have hend : ∀ r' σ', o = .inr (r', σ') → r' = r ∧ σ' = σf := by
          intro r' σ' ho'
          subst ho'
          have h' : some (r', σ') = some (r, σf) := h
          cases h'
          exact ⟨rfl, rfl⟩
        have hroom : ∀ (mid' : Nat) (r' : aRs) (σ2 : aH), cells + aMc r' ≤ (aRm (d + 1) 40).cells ∧ 6 * cells + 6 * aMc r' ≤ (aRm (d + 1) 40).slots := by
          intro mid' r' σ2
          have h1 : aMc r' ≤ 1 := by cases r' <;> simp [aMc]
          exact ⟨by show cells + aMc r' ≤ 40; omega, by show 6 * cells + 6 * aMc r' ≤ 6 * 40; omega⟩
        have hkx : ∀ {k : Nat} {σ2 : aH}, aTh (some hdl) pc k (fun t => some (Sum.inl (t, aDead M.2.2.2.1 t L, [], σ2))) (some (.inr (.inr k, σ2))) = some o → ∀ (q : Addr) (ce : Cell) (H1 : Heap) (locs1 : List Loc) (rest : List Value), va_P D cl (aWs N dA ad kd σ2) H1 → va_S (aA B0) s.heap H1 locs1 → H1[q]? = some ce → ce.vm = .none → s.vm.findClass (xn k) = some ce.cls → vx_W p l e (aRm (d + 1) 40) s m args below meth c H1 locs1 (cells + 1) (6 * cells + 6) (vx_MQ below (aQ N kd D cl dA ad B0 r σf) (aX N kd D cl dA ad B0 xn r σf) args s 40 240 (aA B0)) (F0 m pc ls rest) q := by
          intro k σ2 hth q ce H1 locs1 rest hP1 hS1 hq hce hcl
          rcases aTh_some hth with ⟨hn, -⟩ | ⟨hd', t, hd1, hd2, ho'⟩
          · cases hn
          · cases hd1
            have ho' := (Option.some.inj ho').symm
            obtain ⟨pre, x, suf, c1, c2, c3, c4, c5, c6, c7, ks, c8, c9⟩ := hct _ (aHd_mem hd2)
            refine vx_catch (name := xn k) hown pre x suf (htab.trans c1) (fun z hz => ?_) c3 c4 (hts _ c5) (va_Nw.use (hC.2.2.2.2.2.1 _ c6).1.1 (hC.2.2.2.2.2.1 _ c6).2) hq hce hcl ?_
            · rcases c2 z hz with h1 | ⟨h1, nm, h2, h3⟩
              · exact Or.inl h1
              · exact Or.inr ⟨h1, nm, hts _ h2, by have := hnc; rw [← h3] at this; exact this⟩
            · have hdead : ∀ (ls' : Array Slot) (lv' : List (Nat × Value)), lv_has ls' M.2.1 lv' → aLr ad M.2.1 ls' (aDead M.2.2.2.1 t L) := by
                intro ls' lv' hl'
                unfold aDead
                rw [c8]
                refine ⟨by rw [aKills_len]; exact hL.1, lv', hl', fun i v hi => ?_⟩
                obtain ⟨h1, h2⟩ := aKills_none _ _ _ _ hi
                have hlt : i < M.2.1 := by rw [← hL.1]; exact (List.getElem?_eq_some_iff.mp h2).1
                exact absurd (c9 i hlt) h1
              obtain ⟨hlen, lv, hlv, hmem⟩ := hL
              rcases c7 with ⟨sl, d1, d2, d3⟩ | ⟨sl, d1, d2, d3⟩
              · refine lv_astore_n hx hb d1 rfl hlv d2 rfl (fun ls' h' => ?_)
                have d3 : t = x.handlerPc + 1 := d3
                rw [← d3]
                exact hnext t L [] σ2 (cells + 1) (Nat.le_refl _) ho' ls' H1 locs1 (hdead ls' _ h') hP1 hS1
              · refine lv_astore hx hb d1 hlv d2 rfl (fun ls' h' => ?_)
                have d3 : t = x.handlerPc + 2 := d3
                rw [← d3]
                exact hnext t L [] σ2 (cells + 1) (Nat.le_refl _) ho' ls' H1 locs1 (hdead ls' _ h') hP1 hS1
        refine aInsW (kl := M.2.2.2.1) (hd := some hdl) (rt := M.1) (own := ow mid) (cn := cn) hx hb hml hown hts hK hC hw1 hw2 hw3 hw4 hD hfL hpL hgL hkL hyL (by show 1 ≤ d + 1 + 8; omega) (by show 26 ≤ 80 * (d + 1) + 200; omega) hck2.1 hck2.2 hL hP hS hst (fun pc' L' S' σ' ho' ls' H' locs' hL' hP' hS' => hnext pc' L' S' σ' cells (by omega) ho' ls' H' locs' (hL'.dead _ _) hP' hS') ?_ (fun _ _ _ _ _ hn => by cases hn) ?_ ?_
        · intro v ho' hSv hro
          obtain ⟨rfl, rfl⟩ := hend _ _ ho'
          subst hSv
          refine vx_ret ?_
          refine W.widen (k := 40) (n := 240) (by omega) (by omega) ?_
          have hq : ∀ t : State, t.heap = H → s.WarmedH t.vm → aQ N kd D cl dA ad B0 (.inl v) σ args s (.returned v) t := fun t ht _ => ⟨⟨v, rfl, rfl⟩, by rw [ht]; exact hP, hS.F ht⟩
          cases v with
          | none => exact W.vret hx hb (hr.trans hro.2) hq hS.2.2 hro.1 hlocks
          | some v =>
            cases v with
            | int x =>
              obtain ⟨hd1, ty, hty, hn⟩ := hro
              exact W.zret hx hb (hr.trans hty) hn hq hS.2.2 hd1 hlocks
            | long x => exact W.lret hx hb (hr.trans hro.2) hq hS.2.2 hro.1 hlocks
            | float x => exact hro.elim
            | double x => exact hro.elim
            | null => exact hro.elim
            | ref x => exact hro.elim
            | retAddr x => exact hro.elim
        · intro i mid' hq hdg hcl2
          obtain ⟨v1, v2, v3, v4⟩ := hvL _ hq
          exact aCallV (cN := cN) (xn := xn) hx hb hml hown hts hK hC hgw (fun as σ r σ2 h => hIH mid' as σ r σ2 h) v1 v2 v3 v4 hcN hkN hw2 hdg (by show d + 9 ≤ d + 1 + 8; omega) (by show 80 * d + 280 ≤ 80 * (d + 1) + 200; omega) hL hP hS hcl2 (fun r' σ2 hrun => hroom mid' r' σ2) (fun v σ2 hvm hgo H1 locs1 hP1 hS1 => by
            have := hnext _ _ _ _ cells (by omega) (Option.some.inj hgo).symm ls H1 locs1 (hL.dead _ _) hP1 hS1
            rw [List.map_append] at this
            rw [hvm ad] at this
            exact this) (fun k σ2 hrun hth q ce H1 locs1 hP1 hS1 hq hce hcl => hkx hth q ce H1 locs1 _ hP1 hS1 hq hce hcl)
        · intro i mid' hq hdg hcl2
          obtain ⟨v1, v2, v3⟩ := hcL _ hq
          exact aCallS (xn := xn) hx hb hml hown hts hK hC hgw (fun as σ r σ2 h => hIH mid' as σ r σ2 h) v1 v2 v3 hdg (by show d + 9 ≤ d + 1 + 8; omega) (by show 80 * d + 280 ≤ 80 * (d + 1) + 200; omega) hL hP hS hcl2 (fun r' σ2 hrun => hroom mid' r' σ2) (fun v σ2 hvm hgo H1 locs1 hP1 hS1 => by
            have := hnext _ _ _ _ cells (by omega) (Option.some.inj hgo).symm ls H1 locs1 (hL.dead _ _) hP1 hS1
            rw [List.map_append] at this
            rw [hvm ad] at this
            exact this) (fun k σ2 hrun hth q ce H1 locs1 hP1 hS1 hq hce hcl => hkx hth q ce H1 locs1 _ hP1 hS1 hq hce hcl)
      · cases hst
set_option maxHeartbeats 4000000 in
/-- a wrapper's contract -/
theorem aSoundW (hl : l.stackTraces = false) (hgw : ∀ w ∈ WS, goodWord w = true)
    (hw1 : ∀ i t n, kd i = .inl (t, n) → i < N ∧ t < 4)
    (hw2 : ∀ i ci fl, kd i = .inr (.inl (ci, fl)) → i < N ∧ ∃ (C : String) (T : u_T), cl[ci]? = some (C, T, fl.length) ∧ ∀ k tag, fl[k]? = some (.inr tag) → parseFieldDescriptor (T k).2.2.1 = some (aFt tag))
    (hw3 : ∀ i ci nm vs, kd i = .inr (.inr (.inr (ci, nm, vs))) → cl[ci]? = none)
    (hw4 : ∀ (ci : Nat) (C : String) (T : u_T) (n : Nat), cl[ci]? = some (C, T, n) → (∃ ty0 : Nat → FieldType, ∀ k, k < n → parseFieldDescriptor (T k).2.2.1 = some (ty0 k)) ∧ (∀ a, a < n → ∀ b, b < n → a ≠ b → (T a).2.1 ≠ (T b).2.1) ∧ ∀ w ∈ u_ws C T n, w ∈ WS)
    (hcN : ∀ ci q, cl[ci]? = some q → q.1 = cN ci) (hkN : ∀ i ci nm vs, kd i = .inr (.inr (.inr (ci, nm, vs))) → nm = cN ci)
    (hD : ∀ σ, va_D (aA B0) (aWs N dA ad kd σ))
    (hfL : ∀ q ∈ fL, aFok cl cn fn WS q) (hpL : ∀ q ∈ pL, aPok cl cn WS q) (hgL : ∀ q ∈ gL, ∃ C n d, (C, n, d, q.2.2) ∈ stt ∧ Cond.fieldLink (cn q.1) q.2.1 C n d ∈ WS) (hkL : ∀ q ∈ kL, aKok cn strs WS q)
    (hyL : ∀ q ∈ yL, Cond.methodLink (cn q.1) q.2 arraycopyName ∈ WS ∧ Cond.native arraycopyName ∈ WS ∧ Cond.static arraycopyName ∈ WS ∧ Cond.initialized "java/lang/System" ∈ WS)
    (htL : ∀ q ∈ tL, Bundle.fit (xn q.2.2.2) = true ∧ (∀ n ∈ xs q.2.2.2, Bundle.fit n = true) ∧ (xs q.2.2.2).length ≤ 3 ∧ Cond.classLink (cn q.1) q.2.1 (xn q.2.2.2) ∈ WS ∧ Cond.initialized (xn q.2.2.2) ∈ WS ∧ ∀ w ∈ vx_at0 (cn q.1) q.2.2.1 (xn q.2.2.2) (xs q.2.2.2), w ∈ WS ∨ w ∈ cst)
    (hcL : ∀ q ∈ cL, aLk cn yv nst WS q ∧ aMok yv cb mt WS q.2.2 (mi q.2.2).1 ∧ Cond.static (yv q.2.2) ∈ WS)
    (hvL : ∀ q ∈ vL, aLk cn yv nst WS q ∧ aMok yv cb mt WS q.2.2 ((mi q.2.2).1 - 1) ∧ (Cond.instanceMethod (yv q.2.2) ∈ WS ∧ Cond.selects (yv q.2.2).cls (yv q.2.2) (yv q.2.2) ∈ WS) ∧ ∃ ci, (mi q.2.2).2.2.2 = some ci ∧ cN ci = (yv q.2.2).cls)
    (hmt : ∀ mid M, mt mid = some M → M.2.2.2.2 = none → plainFor (yv mid) = true ∧ (yv mid).cls = cn (ow mid) ∧ ∀ q ∈ M.2.2.1, aCk fL pL gL kL cL vL yL tL (ow mid) (cb mid) q = true)
    {d mid : Nat} {M : aMt} {r : aRs} {σ2 : aH} {hdl : List (Nat × Nat × Nat)} {as : List Value} {σ : aH} (hM : mt mid = some M) (hMh : M.2.2.2.2 = some hdl) (hm1n : plainName (yv mid).cls = true) (hm2 : (yv mid).cls = cn (ow mid)) (hcode : ∀ q ∈ M.2.2.1, aCk fL pL gL kL cL vL yL tL (ow mid) (cb mid) q = true) (hct : ∀ q ∈ hdl, aCt cn xn nc cst WS (ow mid) (cb mid) (hh mid) M.2.1 M.2.2.2.1 q)
    (h : aRunW kd mi mt d mid as σ = some (r, σ2)) :
    vx_Met l (yv mid) (aWmW yv cb hh WS mid M) (aRm (d + 1) 40) (aPcW N kd D cl fn dA ad B0 stt strs nst cst nc as σ) (aQ N kd D cl dA ad B0 r σ2) (aX N kd D cl dA ad B0 xn r σ2) 40 240 (aA B0) := by
  have h' : (match M.2.2.2.2, Nat.ble (aEnt as).length M.2.1 with
    | none, _ => aRun kd mi mt d mid as σ
    | some _, true => aLp kd mi (aRun kd mi mt d) M 40 (0, aPad M.2.1 (aEnt as), [], σ)
    | _, _ => none) = some (r, σ2) := by
    unfold aRunW at h
    rw [hM] at h
    exact h
  split at h'
  · rename_i e; rw [hMh] at e; cases e
  · rename_i hle
    refine vx_ofWH (cc := cb mid) (maxL := M.2.1) (ret := M.1) (hh := hh mid) hm1n rfl ?_
    intro p e s m args below meth c s₁ B hml hv
    obtain ⟨⟨rfl, hP, hK, hC⟩, hnc⟩ := hv
    have hts := atoms_spec (ws := aWmW yv cb hh WS mid M) B.pre
    have htab := vx_table (x := yv mid) B (hts (Cond.codeWith (yv mid) (cb mid) M.2.1 M.1 (hh mid)) List.mem_cons_self)
    have hown : s.vm.findClass (yv mid).cls = some m.cls := findClass_of_methodNamed B.named
    rw [hm2] at hown
    rw [lg_entry_eq]
    exact aFrameX (hh := hh) (nc := nc) (xs := xs) hl hgw hw1 hw2 hw3 hw4 hcN hkN hD hfL hpL hgL hkL hyL htL hcL hvL hmt hMh hcode hct (aSound (xs := xs) hl hgw hw1 hw2 hw3 hw4 hcN hkN hD hfL hpL hgL hkL hyL htL hcL hvL hmt d) B.exec B.bytes hml B.returns B.notSynchronized hown htab hnc (fun w hw => hts w (List.mem_cons_of_mem _ hw)) hK hC 40 _ h' 0 (by omega) s.heap [] _ (aLr_entry ad as (Nat.le_of_ble_eq_true hle)) hP va_S.rf
  · cases h'
end AWr
