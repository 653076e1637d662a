/-! ===== SOUNDNESS: a run of a method in the abstract machine is a contract of the method ===== -/
theorem aLook_mem {α : Type} {pc : Nat} {a : α} : ∀ {l : List (Nat × α)}, aLook pc l = some a → (pc, a) ∈ l
  | [], h => by cases h
  | q :: l, h => by
    unfold aLook at h
    split at h
    · rename_i e
      cases h
      have := aNat_beq e
      subst this
      exact List.mem_cons_self
    · exact List.mem_cons_of_mem _ (aLook_mem h)
theorem aOfW {l : Launch} {y : MethodName} {ws ws' : List Cond} {rm : Room} {Pc : Array Value → State → Prop} {Qc : Array Value → State → Outcome → State → Prop} {XC : String → State → State → Prop} {mc ms : Nat} {free : Addr → Prop} {cc : ByteArray} {maxL : Nat} {ret : Option FieldType}
    (hy : plainFor y = true) (hw : ws = Cond.code y cc maxL ret :: ws')
    (body : ∀ p e s m args below meth c s₁, BodyLoose p l y (headSpec ws rm) cc maxL ret e s m args below meth c s₁ → c.maxLocals = maxL → (∀ x ∈ c.exceptionTable.toList, False) → Pc args s →
      W p l e (headSpec ws rm).room s m args below meth c s.heap [] 0 0 (vx_MQ below Qc XC args s mc ms free) (entryFrame m args maxL)) : vx_Met l y ws rm Pc Qc XC mc ms free := by
  refine MetFree.of_bodySF (code := cc) (maxLocals := maxL) (ret := ret) hy ?_ ?_
  · intro args s m h hn
    obtain ⟨meth, c, h1, h2, h3, h4, h5, h6, -, -⟩ := Cond.code_spec hn (atoms_spec (ws := ws) h _ (by rw [hw]; exact List.mem_cons_self))
    exact ⟨meth, c, h1, h2, h3, h4, h5, h6⟩
  · intro p e s m args below meth c s₁ B hml hP _
    have hh0 : s₁.heap = s.heap := by rw [B.state]; rfl
    have ht : ∀ x ∈ c.exceptionTable.toList, False := by
      obtain ⟨meth9, c9, h1, h2, -, -, -, -, h7, -⟩ := Cond.code_spec B.named (atoms_spec (ws := ws) B.pre _ (by rw [hw]; exact List.mem_cons_self))
      cases Option.some.inj (h1.symm.trans B.method)
      cases Option.some.inj (h2.symm.trans (Stand.of_body B).code)
      intro x hx
      rw [Array.isEmpty_iff.mp h7] at hx
      cases hx
    obtain ⟨t, a1, o, b1, b2, b3⟩ := body p e s m args below meth c s₁ B hml ht hP s₁ hh0 (Stand.of_body B)
    exact ⟨t, o, a1, b1, b2, b3⟩
section ASo
variable {l : Launch} {N : Nat} {kd : Nat → aKd} {mi : Nat → Nat × Nat × Bool × Option Nat} {D : va_G} {cl : List vw_C} {cN cn : Nat → String} {fn : Nat → Nat → String × String × String} {dA : Nat → ClassId} {ad : Nat → Nat} {B0 : Nat}
variable {stt : List (String × String × String × Value)} {strs : List (String × Nat × String × Nat)} {nst : List (String × Nat × MethodName × String)} {cst : List Cond} {WS : List Cond}
variable {fL pL : List (Nat × Nat × Nat × Nat)} {gL kL : List (Nat × Nat × Value)} {cL vL : List (Nat × Nat × Nat)} {yL : List (Nat × Nat)} {tL : List (Nat × Nat × Nat × Nat)}
variable {yv : Nat → MethodName} {cb : Nat → ByteArray} {ow : Nat → Nat} {mt : Nat → Option aMt} {xn : Nat → String} {xs : Nat → List String}
variable {p : Program} {e : Env} {s : State} {m : MethodId} {args : Array Value} {below : List Frame} {meth : Method} {c : Code}
set_option maxHeartbeats 8000000 in
theorem aFrameW (hl : l.stackTraces = false) (hgw : ∀ w ∈ WS, goodWord w = true)
    (hw1 : ∀ i t n, kd i = .inl (t, n) → i < N ∧ t < 4)
    (hw2 : ∀ i ci fl, kd i = .inr (.inl (ci, fl)) → i < N ∧ ∃ (C : String) (T : u_T), cl[ci]? = some (C, T, fl.length) ∧ ∀ k tag, fl[k]? = some (.inr tag) → parseFieldDescriptor (T k).2.2.1 = some (aFt tag))
    (hw3 : ∀ i ci nm vs, kd i = .inr (.inr (.inr (ci, nm, vs))) → cl[ci]? = none)
    (hw4 : ∀ (ci : Nat) (C : String) (T : u_T) (n : Nat), cl[ci]? = some (C, T, n) → (∃ ty0 : Nat → FieldType, ∀ k, k < n → parseFieldDescriptor (T k).2.2.1 = some (ty0 k)) ∧ (∀ a, a < n → ∀ b, b < n → a ≠ b → (T a).2.1 ≠ (T b).2.1) ∧ ∀ w ∈ u_ws C T n, w ∈ WS)
    (hcN : ∀ ci q, cl[ci]? = some q → q.1 = cN ci) (hkN : ∀ i ci nm vs, kd i = .inr (.inr (.inr (ci, nm, vs))) → nm = cN ci)
    (hD : ∀ σ, va_D (aA B0) (aWs N dA ad kd σ))
    (hfL : ∀ q ∈ fL, aFok cl cn fn WS q) (hpL : ∀ q ∈ pL, aPok cl cn WS q) (hgL : ∀ q ∈ gL, ∃ C n d, (C, n, d, q.2.2) ∈ stt ∧ Cond.fieldLink (cn q.1) q.2.1 C n d ∈ WS) (hkL : ∀ q ∈ kL, aKok cn strs WS q)
    (hyL : ∀ q ∈ yL, Cond.methodLink (cn q.1) q.2 arraycopyName ∈ WS ∧ Cond.native arraycopyName ∈ WS ∧ Cond.static arraycopyName ∈ WS ∧ Cond.initialized "java/lang/System" ∈ WS)
    (htL : ∀ q ∈ tL, Bundle.fit (xn q.2.2.2) = true ∧ (∀ n ∈ xs q.2.2.2, Bundle.fit n = true) ∧ (xs q.2.2.2).length ≤ 3 ∧ Cond.classLink (cn q.1) q.2.1 (xn q.2.2.2) ∈ WS ∧ Cond.initialized (xn q.2.2.2) ∈ WS ∧ ∀ w ∈ vx_at0 (cn q.1) q.2.2.1 (xn q.2.2.2) (xs q.2.2.2), w ∈ WS ∨ w ∈ cst)
    (hcL : ∀ q ∈ cL, aLk cn yv nst WS q ∧ aMok yv cb mt WS q.2.2 (mi q.2.2).1 ∧ Cond.static (yv q.2.2) ∈ WS)
    (hvL : ∀ q ∈ vL, aLk cn yv nst WS q ∧ aMok yv cb mt WS q.2.2 ((mi q.2.2).1 - 1) ∧ (Cond.instanceMethod (yv q.2.2) ∈ WS ∧ Cond.selects (yv q.2.2).cls (yv q.2.2) (yv q.2.2) ∈ WS) ∧ ∃ ci, (mi q.2.2).2.2.2 = some ci ∧ cN ci = (yv q.2.2).cls)
    (hmt : ∀ mid M, mt mid = some M → M.2.2.2.2 = none → plainFor (yv mid) = true ∧ (yv mid).cls = cn (ow mid) ∧ ∀ q ∈ M.2.2.1, aCk fL pL gL kL cL vL yL tL (ow mid) (cb mid) q = true)
    {d mid : Nat} {M : aMt} {r : aRs} {σf : aH} (hM : mt mid = some M) (hMh : M.2.2.2.2 = none)
    (hIH : ∀ mid as σ r σ2, aRun kd mi mt d mid as σ = some (r, σ2) → aMet l N kd D cl fn dA ad B0 stt strs nst cst WS yv cb mt xn d mid as σ r σ2)
    (hx : p.tables.exec = Jvm.exec) (hb : c.code = cb mid) (hml : c.maxLocals = M.2.1) (hr : meth.sig.returnType = M.1) (hlocks : meth.locks = false) (hown : s.vm.findClass (cn (ow mid)) = some m.cls) (hout : ∀ x ∈ c.exceptionTable.toList, False)
    (hts : ∀ w ∈ WS, w.before args s = true) (hK : va_K D cl (aTys dA) s) (hC : aCn kd fn stt strs nst cst ad B0 s s.heap) :
    ∀ (n : Nat) (st : aSt), aLp kd mi (aRun kd mi mt d) M n st = some (r, σf) → ∀ (H : Heap) (locs : List Loc) (ls : Array Slot), aLr ad M.2.1 ls st.2.1 → va_P D cl (aWs N dA ad kd st.2.2.2) H → va_S (aA B0) s.heap H locs →
      W p l e (aRm (d + 1) (aMc r)) s m args below meth c H locs 0 0 (vx_MQ below (aQ N kd D cl dA ad B0 r σf) (aX N kd D cl dA ad B0 xn r σf) args s (aMc r) (6 * aMc r) (aA B0)) (F0 m st.1 ls (st.2.2.1.map (aVm ad))) := by
  intro n
  induction n with
  | zero => intro st h; cases h
  | succ n ih =>
    intro st h H locs ls hL hP hS
    obtain ⟨pc, L, S, σ⟩ := st
    rw [aLp_succ] at h
    cases ho : aStep0 kd mi (aRun kd mi mt d) M (pc, L, S, σ) with
    | none => rw [ho] at h; cases h
    | some o =>
      rw [ho] at h
      have hst := ho
      unfold aStep0 aStep at hst
      split at hst
      · rename_i ins im ns cv hlook
        rw [hMh] at hst
        have hck := (hmt mid M hM hMh).2.2 _ (aLook_mem hlook)
        have hck2 := (Bool.and_eq_true _ _).mp hck
        have hnext : ∀ pc' L' S' σ', o = .inl (pc', aDead M.2.2.2.1 pc' L', S', σ') → ∀ ls' H' locs', aLr ad M.2.1 ls' L' → va_P D cl (aWs N dA ad kd σ') H' → va_S (aA B0) s.heap H' locs' → W p l e (aRm (d + 1) (aMc r)) s m args below meth c H' locs' 0 0 (vx_MQ below (aQ N kd D cl dA ad B0 r σf) (aX N kd D cl dA ad B0 xn r σf) args s (aMc r) (6 * aMc r) (aA B0)) (F0 m pc' ls' (S'.map (aVm ad))) := by
          intro pc' L' S' σ' ho' ls' H' locs' hL' hP' hS'
          subst ho'
          exact ih _ h H' locs' ls' (hL'.dead _ _) hP' hS'
        have hend : ∀ r' σ', o = .inr (r', σ') → r' = r ∧ σ' = σf := by
          intro r' σ' ho'
          subst ho'
          have h' : some (r', σ') = some (r, σf) := h
          cases h'
          exact ⟨rfl, rfl⟩
        have hcall : ∀ (mid' : Nat) (r' : aRs) (σ2 : aH), ((∃ v : Option Value, r' = .inl v) ∨ (∃ k, r' = .inr k ∧ r = .inr k)) → 0 + aMc r' ≤ (aRm (d + 1) (aMc r)).cells ∧ 0 + 6 * aMc r' ≤ (aRm (d + 1) (aMc r)).slots := by
          intro mid' r' σ2 hh
          rcases hh with ⟨v, rfl⟩ | ⟨k, rfl, rfl⟩
          · exact ⟨Nat.zero_le _, Nat.zero_le _⟩
          · exact ⟨Nat.le_refl _, Nat.le_refl _⟩
        have hthk : ∀ {k : Nat} {σ2 : aH} {go : Nat → Option (aSt ⊕ (aRs × aH))}, aTh none pc k go (some (.inr (.inr k, σ2))) = some o → r = .inr k ∧ σf = σ2 := by
          intro k σ2 go hth
          obtain ⟨e1, e2⟩ := hend _ _ (Option.some.inj (show some _ = some o from hth)).symm
          exact ⟨e1.symm, e2.symm⟩
        have hres : ∀ {mid' : Nat} {r' : aRs} {σ2 : aH} {S1 : List Value} {L1 : List (Option Value)} {S0 : List Value} {σ0 : aH}, aCall kd mi (aRun kd mi mt d) none (fun r => some (.inr r)) (fun pc L S σ => some (.inl (pc, aDead M.2.2.2.1 pc L, S, σ))) pc L1 S0 σ0 mid' = some o → aRun kd mi mt d mid' (S0.take (mi mid').1).reverse σ0 = some (r', σ2) → (∃ v : Option Value, r' = .inl v) ∨ (∃ k, r' = .inr k ∧ r = .inr k) := by
          intro mid' r' σ2 S1 L1 S0 σ0 hc hrun
          obtain ⟨-, -, -, r9, σ9, hrun9, hv⟩ := aCall_some hc
          rw [hrun] at hrun9
          cases hrun9
          rcases hv with ⟨v, rfl, -, -⟩ | ⟨k, rfl, hth⟩
          · exact Or.inl ⟨v, rfl⟩
          · exact Or.inr ⟨k, rfl, (hthk hth).1⟩
        have hkx : ∀ {k : Nat} {σ2 : aH} {go : Nat → Option (aSt ⊕ (aRs × aH))}, aTh none pc k go (some (.inr (.inr k, σ2))) = some o → ∀ (q : Addr) (ce : Cell) (H1 : Heap) (locs1 : List Loc) (rest : List Value), va_P D cl (aWs N dA ad kd σ2) H1 → va_S (aA B0) s.heap H1 locs1 → H1[q]? = some ce → ce.vm = .none → s.vm.findClass (xn k) = some ce.cls → vx_W p l e (aRm (d + 1) (aMc r)) s m args below meth c H1 locs1 (0 + 1) (0 + 6) (vx_MQ below (aQ N kd D cl dA ad B0 r σf) (aX N kd D cl dA ad B0 xn r σf) args s (aMc r) (6 * aMc r) (aA B0)) (F0 m pc ls rest) q := by
          intro k σ2 go hth q ce H1 locs1 rest hP1 hS1 hq hce hcl
          obtain ⟨rfl, rfl⟩ := hthk hth
          exact vx_out (E := xn k) (ce := ce) (fun x hx => (hout x hx).elim) hlocks hq hce hcl (fun t ht _ => ⟨⟨k, rfl, rfl⟩, by rw [ht]; exact hP1, hS1.F ht⟩) hS1.2.2 (Nat.le_refl _) (Nat.le_refl _)
        refine aInsW (kl := M.2.2.2.1) (hd := none) (rt := M.1) (own := ow mid) (cn := cn) hx hb hml hown hts hK hC hw1 hw2 hw3 hw4 hD hfL hpL hgL hkL hyL (by show 1 ≤ d + 1 + 8; omega) (by show 26 ≤ 80 * (d + 1) + 200; omega) hck2.1 hck2.2 hL hP hS hst hnext ?_ ?_ ?_ ?_
        · intro v ho' hSv hro
          obtain ⟨rfl, rfl⟩ := hend _ _ ho'
          subst hSv
          refine vx_ret ?_
          have hq : ∀ t : State, t.heap = H → s.WarmedH t.vm → aQ N kd D cl dA ad B0 (.inl v) σ args s (.returned v) t := fun t ht _ => ⟨⟨v, rfl, rfl⟩, by rw [ht]; exact hP, hS.F ht⟩
          cases v with
          | none => exact W.vret hx hb (hr.trans hro.2) hq hS.2.2 hro.1 hlocks
          | some v =>
            cases v with
            | int x =>
              obtain ⟨hd1, ty, hty, hn⟩ := hro
              exact W.zret hx hb (hr.trans hty) hn hq hS.2.2 hd1 hlocks
            | long x => exact W.lret hx hb (hr.trans hro.2) hq hS.2.2 hro.1 hlocks
            | float x => exact hro.elim
            | double x => exact hro.elim
            | null => exact hro.elim
            | ref x => exact hro.elim
            | retAddr x => exact hro.elim
        · intro q k hq hq1 hq2 _ hS0 ho' d0 d3 d4 d7
          obtain ⟨rfl, rfl⟩ := hend _ _ ho'
          subst hS0
          subst hq2
          obtain ⟨t1, t2, t3, t4, t5, t6⟩ := htL q hq
          rw [hq1] at t4 t6
          have hgood : ∀ w ∈ WS, vx_ot w = true := fun w hw => by
            unfold vx_ot
            rw [hgw w hw, Bool.or_true]
          refine vx_throw0 (own := cn (ow mid)) (cls := xn q.2.2.2) (names := xs q.2.2.2) (ik := q.2.1) (ic := q.2.2.1) (A := aA B0) hx hb hl hown t1 t2 (hts _ t4) (hts _ t5) (fun w hw => ?_) (fun w hw => ?_) hC.2.2.2.2.2.2.1 hC.2.2.2.2.2.2.2 hS (hL.size.trans hml.symm) d0 d3 d4 d7 (fun x hx => (hout x hx).elim) (by show _ < d + 1 + 8; omega) ?_ (Nat.le_refl _) (Nat.le_refl _) hlocks (fun t _ hz hk => ⟨⟨_, rfl, rfl⟩, fun k q hkq => (hP k q hkq).kept (hk _ (hP k q hkq).lt), ?_⟩) hS.2.2 (Nat.le_refl _) (Nat.le_refl _)
          · rcases t6 w hw with h6 | h6
            · exact hts w h6
            · exact va_Nw.use (hC.2.2.2.2.2.1 w h6).1.1 (hC.2.2.2.2.2.1 w h6).2
          · rcases List.mem_cons.mp hw with rfl | hw
            · exact hgood _ t4
            · rcases List.mem_cons.mp hw with rfl | hw
              · exact hgood _ t5
              · rcases t6 w hw with h6 | h6
                · exact hgood w h6
                · unfold vx_ot
                  rw [(hC.2.2.2.2.2.1 w h6).1.1, Bool.true_or]
          · show 0 + (13 * ((xs q.2.2.2).length + 1) + 42) ≤ 80 * (d + 1) + 200
            omega
          · have hF : va_F (aA B0) s t := by
              refine ⟨Nat.le_trans hS.1 hz, fun q hq hA => ?_⟩
              rw [hk q (Nat.lt_of_lt_of_le hq hS.1)]
              exact hS.2.1 q hq hA
            exact hF
        · intro i mid' hq hdg hcl2
          obtain ⟨v1, v2, v3, v4⟩ := hvL _ hq
          exact aCallV (cN := cN) (xn := xn) hx hb hml hown hts hK hC hgw (fun as σ r σ2 h => hIH mid' as σ r σ2 h) v1 v2 v3 v4 hcN hkN hw2 hdg (by show d + 9 ≤ d + 1 + 8; omega) (by show 80 * d + 280 ≤ 80 * (d + 1) + 200; omega) hL hP hS hcl2 (fun r' σ2 hrun => hcall mid' r' σ2 (hres (S1 := S) hcl2 hrun)) (fun v σ2 hvm hgo H1 locs1 hP1 hS1 => by
            have := hnext _ _ _ _ (Option.some.inj hgo).symm ls H1 locs1 hL hP1 hS1
            rw [List.map_append] at this
            rw [hvm ad] at this
            exact this) (fun k σ2 hrun hth q ce H1 locs1 hP1 hS1 hq hce hcl => hkx hth q ce H1 locs1 _ hP1 hS1 hq hce hcl)
        · intro i mid' hq hdg hcl2
          obtain ⟨v1, v2, v3⟩ := hcL _ hq
          exact aCallS (xn := xn) hx hb hml hown hts hK hC hgw (fun as σ r σ2 h => hIH mid' as σ r σ2 h) v1 v2 v3 hdg (by show d + 9 ≤ d + 1 + 8; omega) (by show 80 * d + 280 ≤ 80 * (d + 1) + 200; omega) hL hP hS hcl2 (fun r' σ2 hrun => hcall mid' r' σ2 (hres (S1 := S) hcl2 hrun)) (fun v σ2 hvm hgo H1 locs1 hP1 hS1 => by
            have := hnext _ _ _ _ (Option.some.inj hgo).symm ls H1 locs1 hL hP1 hS1
            rw [List.map_append] at this
            rw [hvm ad] at this
            exact this) (fun k σ2 hrun hth q ce H1 locs1 hP1 hS1 hq hce hcl => hkx hth q ce H1 locs1 _ hP1 hS1 hq hce hcl)
      · cases hst
set_option maxHeartbeats 4000000 in
theorem aSound (hl : l.stackTraces = false) (hgw : ∀ w ∈ WS, goodWord w = true)
    (hw1 : ∀ i t n, kd i = .inl (t, n) → i < N ∧ t < 4)
    (hw2 : ∀ i ci fl, kd i = .inr (.inl (ci, fl)) → i < N ∧ ∃ (C : String) (T : u_T), cl[ci]? = some (C, T, fl.length) ∧ ∀ k tag, fl[k]? = some (.inr tag) → parseFieldDescriptor (T k).2.2.1 = some (aFt tag))
    (hw3 : ∀ i ci nm vs, kd i = .inr (.inr (.inr (ci, nm, vs))) → cl[ci]? = none)
    (hw4 : ∀ (ci : Nat) (C : String) (T : u_T) (n : Nat), cl[ci]? = some (C, T, n) → (∃ ty0 : Nat → FieldType, ∀ k, k < n → parseFieldDescriptor (T k).2.2.1 = some (ty0 k)) ∧ (∀ a, a < n → ∀ b, b < n → a ≠ b → (T a).2.1 ≠ (T b).2.1) ∧ ∀ w ∈ u_ws C T n, w ∈ WS)
    (hcN : ∀ ci q, cl[ci]? = some q → q.1 = cN ci) (hkN : ∀ i ci nm vs, kd i = .inr (.inr (.inr (ci, nm, vs))) → nm = cN ci)
    (hD : ∀ σ, va_D (aA B0) (aWs N dA ad kd σ))
    (hfL : ∀ q ∈ fL, aFok cl cn fn WS q) (hpL : ∀ q ∈ pL, aPok cl cn WS q) (hgL : ∀ q ∈ gL, ∃ C n d, (C, n, d, q.2.2) ∈ stt ∧ Cond.fieldLink (cn q.1) q.2.1 C n d ∈ WS) (hkL : ∀ q ∈ kL, aKok cn strs WS q)
    (hyL : ∀ q ∈ yL, Cond.methodLink (cn q.1) q.2 arraycopyName ∈ WS ∧ Cond.native arraycopyName ∈ WS ∧ Cond.static arraycopyName ∈ WS ∧ Cond.initialized "java/lang/System" ∈ WS)
    (htL : ∀ q ∈ tL, Bundle.fit (xn q.2.2.2) = true ∧ (∀ n ∈ xs q.2.2.2, Bundle.fit n = true) ∧ (xs q.2.2.2).length ≤ 3 ∧ Cond.classLink (cn q.1) q.2.1 (xn q.2.2.2) ∈ WS ∧ Cond.initialized (xn q.2.2.2) ∈ WS ∧ ∀ w ∈ vx_at0 (cn q.1) q.2.2.1 (xn q.2.2.2) (xs q.2.2.2), w ∈ WS ∨ w ∈ cst)
    (hcL : ∀ q ∈ cL, aLk cn yv nst WS q ∧ aMok yv cb mt WS q.2.2 (mi q.2.2).1 ∧ Cond.static (yv q.2.2) ∈ WS)
    (hvL : ∀ q ∈ vL, aLk cn yv nst WS q ∧ aMok yv cb mt WS q.2.2 ((mi q.2.2).1 - 1) ∧ (Cond.instanceMethod (yv q.2.2) ∈ WS ∧ Cond.selects (yv q.2.2).cls (yv q.2.2) (yv q.2.2) ∈ WS) ∧ ∃ ci, (mi q.2.2).2.2.2 = some ci ∧ cN ci = (yv q.2.2).cls)
    (hmt : ∀ mid M, mt mid = some M → M.2.2.2.2 = none → plainFor (yv mid) = true ∧ (yv mid).cls = cn (ow mid) ∧ ∀ q ∈ M.2.2.1, aCk fL pL gL kL cL vL yL tL (ow mid) (cb mid) q = true) :
    ∀ (d mid : Nat) (as : List Value) (σ : aH) (r : aRs) (σ2 : aH), aRun kd mi mt d mid as σ = some (r, σ2) → aMet l N kd D cl fn dA ad B0 stt strs nst cst WS yv cb mt xn d mid as σ r σ2 := by
  intro d
  induction d with
  | zero => intro mid as σ r σ2 h; cases h
  | succ d ih =>
    intro mid as σ r σ2 h M hM
    have h' : (match M.2.2.2.2, Nat.ble (aEnt as).length M.2.1 with
      | none, true => aLoop kd mi (aRun kd mi mt d) M (0, aPad M.2.1 (aEnt as), [], σ)
      | _, _ => none) = some (r, σ2) := by
      unfold aRun at h
      rw [hM] at h
      exact h
    split at h'
    · rename_i hMh hle
      obtain ⟨n, hn⟩ := (aLoop_some kd mi (aRun kd mi mt d) M).mp h'
      obtain ⟨m1, m2, -⟩ := hmt mid M hM hMh
      refine aOfW (cc := cb mid) (maxL := M.2.1) (ret := M.1) m1 rfl ?_
      intro p e s m args below meth c s₁ B hml hout hv
      obtain ⟨rfl, hP, hK, hC⟩ := hv
      have hts := atoms_spec (ws := aWm yv cb WS mid M) B.pre
      have hown : s.vm.findClass (yv mid).cls = some m.cls := findClass_of_methodNamed B.named
      rw [m2] at hown
      rw [lg_entry_eq]
      exact aFrameW hl hgw hw1 hw2 hw3 hw4 hcN hkN hD hfL hpL hgL hkL hyL htL hcL hvL hmt hM hMh ih B.exec B.bytes hml B.returns B.notSynchronized hown hout (fun w hw => hts w (List.mem_cons_of_mem _ hw)) hK hC n _ hn s.heap [] _ (aLr_entry ad as (Nat.le_of_ble_eq_true hle)) hP va_S.rf
    · cases h'
end ASo
