/-! ===== THE LAW'S STEPS, from a place up to a place; the law calls methods with a table (wrappers), each of which may cost 40 cells ===== -/
theorem aUgW_step {stop : Nat} {kd : Nat → aKd} {mi : Nat → Nat × Nat × Bool × Option Nat} {run : Nat → List Value → aH → Option (aRs × aH)} {M : aMt} {n w : Nat} {st : aSt} {o : aSt ⊕ (aRs × aH)} (h : aUgW stop kd mi run M (n + 1) w st = some o) :
    ∃ w' o1, (w' = w ∨ w = w' + 1) ∧ ((∃ i r, aLook st.1 M.2.2.1 = some (.invokestatic i, r)) → w = w' + 1) ∧ aStep0 kd mi run M st = some o1 ∧ (∀ r, o1 = .inr r → o = .inr r) ∧ ∀ st1, o1 = .inl st1 → (st1.1 = stop ∧ o = .inl st1) ∨ aUgW stop kd mi run M n w' st1 = some o := by
  have key : ∀ w', aStep kd mi run M (fun r => some (.inr r)) (fun st => match Nat.beq st.1 stop with
        | true => some (.inl st)
        | false => aUgW stop kd mi run M n w' st) st = some o → ∃ o1, aStep0 kd mi run M st = some o1 ∧ (∀ r, o1 = .inr r → o = .inr r) ∧ ∀ st1, o1 = .inl st1 → (st1.1 = stop ∧ o = .inl st1) ∨ aUgW stop kd mi run M n w' st1 = some o := by
    intro w' h
    rw [aStep_eq] at h
    cases ho : aStep0 kd mi run M st with
    | none => rw [ho] at h; cases h
    | some o1 =>
      rw [ho] at h
      refine ⟨o1, rfl, fun r e => ?_, fun st1 e => ?_⟩
      · subst e
        exact (Option.some.inj (show some (Sum.inr r) = some o from h)).symm
      · subst e
        have h : (match Nat.beq st1.1 stop with
          | true => some (.inl st1)
          | false => aUgW stop kd mi run M n w' st1) = some o := h
        split at h
        · rename_i e
          exact Or.inl ⟨aNat_beq e, (Option.some.inj h).symm⟩
        · exact Or.inr h
  unfold aUgW at h
  split at h
  · rename_i i r e
    split at h
    · cases h
    · rename_i w'
      obtain ⟨o1, h1, h2, h3⟩ := key w' h
      exact ⟨w', o1, Or.inr rfl, fun _ => rfl, h1, h2, h3⟩
  · rename_i hne
    obtain ⟨o1, h1, h2, h3⟩ := key w h
    exact ⟨w, o1, Or.inl rfl, fun ⟨i, r, e⟩ => absurd e (hne i r), h1, h2, h3⟩
theorem aCkD_eq {cc : ByteArray} {pc : Nat} {ins : Instr} (h : aCkD cc pc ins = true) : ∃ n, decode cc pc = .ok (ins, n) := by
  unfold aCkD at h
  split at h
  · split at h
    · rename_i i n e
      exact ⟨n, by rw [e, of_decide_eq_true h]⟩
    · cases h
  · exact ⟨_, aDc_eq h⟩
section ALw
variable {l : Launch} {N : Nat} {kd : Nat → aKd} {mi : Nat → Nat × Nat × Bool × Option Nat} {D : va_G} {cl : List vw_C} {cN cn : Nat → String} {fn : Nat → Nat → String × String × String} {dA : Nat → ClassId} {ad : Nat → Nat} {B0 : Nat}
variable {stt : List (String × String × String × Value)} {strs : List (String × Nat × String × Nat)} {nst : List (String × Nat × MethodName × String)} {cst : List Cond} {WS : List Cond}
variable {fL pL : List (Nat × Nat × Nat × Nat)} {gL kL : List (Nat × Nat × Value)} {cL vL : List (Nat × Nat × Nat)} {yL : List (Nat × Nat)} {tL : List (Nat × Nat × Nat × Nat)}
variable {yv : Nat → MethodName} {cb : Nat → ByteArray} {ow : Nat → Nat} {mt : Nat → Option aMt} {xn : Nat → String} {xs : Nat → List String}
variable {p : Program} {e : Env} {s : State} {m : MethodId} {args : Array Value} {below : List Frame} {meth : Method} {c : Code}

variable {H : Heap} {locs : List Loc} {R : Room} {cells slots : Nat} {Q : State → Prop} {ls : Array Slot} {pc : Nat}

variable {hh : Nat → List (Nat × Nat × Nat × Nat)} {nc : String × String} {wL : List (Nat × Nat × Nat)}
/-- what is known of a wrapper that the law calls -/
def aWok (fL pL : List (Nat × Nat × Nat × Nat)) (gL kL : List (Nat × Nat × Value)) (cL vL : List (Nat × Nat × Nat)) (yL : List (Nat × Nat)) (tL : List (Nat × Nat × Nat × Nat)) (mi : Nat → Nat × Nat × Bool × Option Nat) (mt : Nat → Option aMt) (yv : Nat → MethodName) (cb : Nat → ByteArray) (ow : Nat → Nat) (cn xn : Nat → String) (hh : Nat → List (Nat × Nat × Nat × Nat)) (nc : String × String) (cst WS : List Cond) (q : Nat × Nat × Nat) : Prop :=
  ∃ M hdl, mt q.2.2 = some M ∧ M.2.2.2.2 = some hdl ∧ plainName (yv q.2.2).cls = true ∧ (yv q.2.2).cls = cn (ow q.2.2) ∧ (∀ z ∈ M.2.2.1, aCk fL pL gL kL cL vL yL tL (ow q.2.2) (cb q.2.2) z = true) ∧ (∀ z ∈ hdl, aCt cn xn nc cst WS (ow q.2.2) (cb q.2.2) (hh q.2.2) M.2.1 M.2.2.2.1 z) ∧
    Cond.methodLink (cn q.1) q.2.1 (yv q.2.2) ∈ WS ∧ Cond.static (yv q.2.2) ∈ WS ∧ Cond.codeWith (yv q.2.2) (cb q.2.2) M.2.1 M.1 (hh q.2.2) ∈ WS ∧ Cond.initialized (yv q.2.2).cls ∈ WS ∧ (yv q.2.2).cls ≠ "java/lang/invoke/MethodHandle" ∧ (yv q.2.2).cls ≠ "java/lang/invoke/VarHandle" ∧ (parseMethodDescriptor (yv q.2.2).desc).map (fun d => d.parameters.length) = some (mi q.2.2).1 ∧ M.2.1 ≤ 60
set_option maxHeartbeats 8000000 in
theorem aLawSeg (hl : l.stackTraces = false) (hgw : ∀ w ∈ WS, goodWord w = true)
    (hw1 : ∀ i t n, kd i = .inl (t, n) → i < N ∧ t < 4)
    (hw2 : ∀ i ci fl, kd i = .inr (.inl (ci, fl)) → i < N ∧ ∃ (C : String) (T : u_T), cl[ci]? = some (C, T, fl.length) ∧ ∀ k tag, fl[k]? = some (.inr tag) → parseFieldDescriptor (T k).2.2.1 = some (aFt tag))
    (hw3 : ∀ i ci nm vs, kd i = .inr (.inr (.inr (ci, nm, vs))) → cl[ci]? = none)
    (hw4 : ∀ (ci : Nat) (C : String) (T : u_T) (n : Nat), cl[ci]? = some (C, T, n) → (∃ ty0 : Nat → FieldType, ∀ k, k < n → parseFieldDescriptor (T k).2.2.1 = some (ty0 k)) ∧ (∀ a, a < n → ∀ b, b < n → a ≠ b → (T a).2.1 ≠ (T b).2.1) ∧ ∀ w ∈ u_ws C T n, w ∈ WS)
    (hcN : ∀ ci q, cl[ci]? = some q → q.1 = cN ci) (hkN : ∀ i ci nm vs, kd i = .inr (.inr (.inr (ci, nm, vs))) → nm = cN ci)
    (hD : ∀ σ, va_D (aA B0) (aWs N dA ad kd σ))
    (hfL : ∀ q ∈ fL, aFok cl cn fn WS q) (hpL : ∀ q ∈ pL, aPok cl cn WS q) (hgL : ∀ q ∈ gL, ∃ C n d, (C, n, d, q.2.2) ∈ stt ∧ Cond.fieldLink (cn q.1) q.2.1 C n d ∈ WS) (hkL : ∀ q ∈ kL, aKok cn strs WS q)
    (hyL : ∀ q ∈ yL, Cond.methodLink (cn q.1) q.2 arraycopyName ∈ WS ∧ Cond.native arraycopyName ∈ WS ∧ Cond.static arraycopyName ∈ WS ∧ Cond.initialized "java/lang/System" ∈ WS)
    (htL : ∀ q ∈ tL, Bundle.fit (xn q.2.2.2) = true ∧ (∀ n ∈ xs q.2.2.2, Bundle.fit n = true) ∧ (xs q.2.2.2).length ≤ 3 ∧ Cond.classLink (cn q.1) q.2.1 (xn q.2.2.2) ∈ WS ∧ Cond.initialized (xn q.2.2.2) ∈ WS ∧ ∀ w ∈ vx_at0 (cn q.1) q.2.2.1 (xn q.2.2.2) (xs q.2.2.2), w ∈ WS ∨ w ∈ cst)
    (hcL : ∀ q ∈ cL, aLk cn yv nst WS q ∧ aMok yv cb mt WS q.2.2 (mi q.2.2).1 ∧ Cond.static (yv q.2.2) ∈ WS)
    (hvL : ∀ q ∈ vL, aLk cn yv nst WS q ∧ aMok yv cb mt WS q.2.2 ((mi q.2.2).1 - 1) ∧ (Cond.instanceMethod (yv q.2.2) ∈ WS ∧ Cond.selects (yv q.2.2).cls (yv q.2.2) (yv q.2.2) ∈ WS) ∧ ∃ ci, (mi q.2.2).2.2.2 = some ci ∧ cN ci = (yv q.2.2).cls)
    (hmt : ∀ mid M, mt mid = some M → M.2.2.2.2 = none → plainFor (yv mid) = true ∧ (yv mid).cls = cn (ow mid) ∧ ∀ q ∈ M.2.2.1, aCk fL pL gL kL cL vL yL tL (ow mid) (cb mid) q = true)
    {d own Cmax stop : Nat} {cc : ByteArray} {M : aMt} (hMh : M.2.2.2.2 = none) (hcode : ∀ q ∈ M.2.2.1, aCk fL pL gL kL wL vL yL tL own cc q = true) (hvN : ∀ q ∈ vL, ∀ M', mt q.2.2 = some M' → M'.2.2.2.2 = none) (hwL : ∀ q ∈ wL, aWok fL pL gL kL cL vL yL tL mi mt yv cb ow cn xn hh nc cst WS q)
    (hx : p.tables.exec = Jvm.exec) (hb : c.code = cc) (hml : c.maxLocals = M.2.1) (hown : s.vm.findClass (cn own) = some m.cls) (hnc : va_Nc nc.1 nc.2 s)
    (hts : ∀ w ∈ WS, w.before args s = true) (hK : va_K D cl (aTys dA) s) (hC : aCn kd fn stt strs nst cst ad B0 s s.heap)
    (hRf : d + 10 ≤ R.frames) (hRl : 80 * d + 360 ≤ R.locals) (hRc : Cmax + 1 ≤ R.cells) (hRs : 6 * Cmax + 6 ≤ R.slots)
    {o : aSt ⊕ (aRs × aH)} (hno : ∀ k σ', o ≠ .inr (.inr k, σ')) (hthn : ∀ q ∈ tL, q.1 ≠ own)
    (hk : ∀ st', o = .inl st' → ∀ (cells' : Nat) (H' : Heap) (locs' : List Loc) (ls' : Array Slot), cells' ≤ Cmax → aLr ad M.2.1 ls' st'.2.1 → va_P D cl (aWs N dA ad kd st'.2.2.2) H' → va_S (aA B0) s.heap H' locs' → W p l e R s m args below meth c H' locs' cells' (6 * cells') Q (F0 m st'.1 ls' (st'.2.2.1.map (aVm ad))))
    (hret : ∀ v σ', o = .inr (.inl v, σ') → ∀ (cells' : Nat) (H' : Heap) (locs' : List Loc) (ls' : Array Slot) (pc' : Nat), cells' ≤ Cmax → aRetOk cc pc' M.1 v → va_S (aA B0) s.heap H' locs' → W p l e R s m args below meth c H' locs' cells' (6 * cells') Q (F0 m pc' ls' (v.toList.map (aVm ad)))) :
    ∀ (n w : Nat) (st : aSt), aUgW stop kd mi (aRunW kd mi mt d) M n w st = some o → ∀ (cells : Nat) (H : Heap) (locs : List Loc) (ls : Array Slot), cells + 40 * w ≤ Cmax → aLr ad M.2.1 ls st.2.1 → va_P D cl (aWs N dA ad kd st.2.2.2) H → va_S (aA B0) s.heap H locs →
      W p l e R s m args below meth c H locs cells (6 * cells) Q (F0 m st.1 ls (st.2.2.1.map (aVm ad))) := by
  intro n
  induction n with
  | zero => intro w st h; cases h
  | succ n ih =>
    intro w st h cells H locs ls hcells hL hP hS
    obtain ⟨w', o1, hw', hwi, ho, hinr, hinl⟩ := aUgW_step h
    obtain ⟨pc, L, S, σ⟩ := st
    have hst := ho
    unfold aStep0 aStep at hst
    split at hst
    · rename_i ins im ns cv hlook
      rw [hMh] at hst
      have hck2 := (Bool.and_eq_true _ _).mp (hcode _ (aLook_mem hlook))
      have hnext : ∀ pc' L' S' σ' cells', cells' + 40 * w' ≤ Cmax → o1 = .inl (pc', aDead M.2.2.2.1 pc' L', S', σ') → ∀ ls' H' locs', aLr ad M.2.1 ls' L' → va_P D cl (aWs N dA ad kd σ') H' → va_S (aA B0) s.heap H' locs' → W p l e R s m args below meth c H' locs' cells' (6 * cells') Q (F0 m pc' ls' (S'.map (aVm ad))) := by
        intro pc' L' S' σ' cells' hc' ho' ls' H' locs' hL' hP' hS'
        rcases hinl _ ho' with ⟨-, h2⟩ | h2
        · exact hk _ h2 cells' H' locs' ls' (by omega) (hL'.dead _ _) hP' hS'
        · exact ih w' _ h2 cells' H' locs' ls' hc' (hL'.dead _ _) hP' hS'
      refine aInsW (kl := M.2.2.2.1) (hd := none) (rt := M.1) (own := own) (cn := cn) hx hb hml hown hts hK hC hw1 hw2 hw3 hw4 hD hfL hpL hgL hkL hyL (by omega) (by omega) hck2.1 hck2.2 hL hP hS hst (fun pc' L' S' σ' ho' ls' H' locs' hL' hP' hS' => hnext pc' L' S' σ' cells (by omega) ho' ls' H' locs' hL' hP' hS') ?_ (fun q k hq hq1 => absurd hq1 (hthn q hq)) ?_ ?_
      · intro v ho' hSv hro
        subst hSv
        exact hret v σ (hinr _ ho') cells H locs ls pc (by omega) hro hS
      · intro i mid' hq hdg hcl2
        obtain ⟨v1, v2, v3, v4⟩ := hvL _ hq
        refine aCallV (d := d) (yv := yv) (cb := cb) (mt := mt) (cN := cN) (xn := xn) hx hb hml hown hts hK hC hgw (fun as σ r σ2 h M' hM' => ?_) v1 v2 v3 v4 hcN hkN hw2 hdg (by omega) (by omega) hL hP hS hcl2 (fun r' σ2 hrun => ?_) (fun v σ2 hvm hgo H1 locs1 hP1 hS1 => ?_) (fun k σ2 hrun hth q ce H1 locs1 hP1 hS1 hq hce hcl => ?_)
        · have hn := hvN _ hq M' hM'
          have h' : aRun kd mi mt d mid' as σ = some (r, σ2) := by
            unfold aRunW at h
            rw [hM'] at h
            dsimp only at h
            rw [hn] at h
            exact h
          exact aSound (xs := xs) hl hgw hw1 hw2 hw3 hw4 hcN hkN hD hfL hpL hgL hkL hyL htL hcL hvL hmt d mid' as σ r σ2 h' M' hM'
        · have h1 : aMc r' ≤ 1 := by cases r' <;> simp [aMc]
          exact ⟨by omega, by omega⟩
        · have := hnext _ _ _ _ cells (by omega) (Option.some.inj hgo).symm ls H1 locs1 hL hP1 hS1
          rw [List.map_append] at this
          rw [hvm ad] at this
          exact this
        · rcases aTh_some hth with ⟨-, h2⟩ | ⟨l', t, h2, -⟩
          · exact absurd (hinr _ (Option.some.inj h2).symm) (hno _ _)
          · cases h2
      · intro i mid hq hdg hcl2
        have hwe : w = w' + 1 := hwi ⟨_, _, by
          show aLook pc M.2.2.1 = _
          rw [hlook]
          obtain ⟨n9, e1⟩ := aCkD_eq hck2.1
          have e2 : ins = .invokestatic i := by
            have e3 := e1.symm.trans hdg
            cases e3
            rfl
          rw [e2]⟩
        obtain ⟨M', hdl, w1, w2, w3, w4, w5, w6, w7, w8, w9, w10, w11, w12, w13, w14⟩ := hwL _ hq
        obtain ⟨k1, k2, -, r, σ2, hrun, hres⟩ := aCall_some hcl2
        have k1 : (mi mid).1 ≤ S.length := k1
        have hmet := aSoundW (D := D) (hh := hh) (nc := nc) (xs := xs) hl hgw hw1 hw2 hw3 hw4 hcN hkN hD hfL hpL hgL hkL hyL htL hcL hvL hmt w1 w2 w3 w4 w5 w6 hrun
        rcases hres with ⟨v, hv, hvm, hgo⟩ | ⟨k, hk1, hth⟩
        · have hG : GoodIn WS (aWmW yv cb hh WS mid M') := by
            intro w hw
            rcases List.mem_cons.mp hw with rfl | hw
            · exact ⟨w9, good_of_word (hgw _ w9)⟩
            · exact ⟨hw, good_of_word (hgw _ hw)⟩
          have hG2 : GoodIn WS (va_wsS (cn own) i (yv mid) (aWmW yv cb hh WS mid M')) := by
            intro w hw
            rcases List.mem_append.mp hw with hw | hw
            · rcases List.mem_cons.mp hw with rfl | hw
              · exact ⟨w7, good_of_word (hgw _ w7)⟩
              · rcases List.mem_cons.mp hw with rfl | hw
                · exact ⟨w8, good_of_word (hgw _ w8)⟩
                · rcases List.mem_cons.mp hw with rfl | hw
                  · exact ⟨w10, good_of_word (hgw _ w10)⟩
                  · exact absurd hw List.not_mem_nil
            · exact hG w hw
          have hpre : ∀ U : State, U.heap = H → s.WarmedH U.vm → aPcW N kd D cl fn dA ad B0 stt strs nst cst nc (S.take (mi mid).1).reverse σ ((S.take (mi mid).1).reverse.map (aVm ad)).toArray U := fun U hU hW => ⟨⟨rfl, by rw [hU]; exact hP, hK.moved hW.alike, by rw [hU]; exact (hC.kept hS.2.1).warm hW⟩, hnc.moved hW.alike⟩
          have hblind : FrameBlind (aPcW N kd D cl fn dA ad B0 stt strs nst cst nc (S.take (mi mid).1).reverse σ) := by
            intro a U g mk hq
            exact ⟨aPc_blind a U g mk hq.1, va_Nc.moved (u := U) (U := U.calling g mk a) (Vm.Alike.refl U.vm) hq.2⟩
          have hstk : (F0 m pc ls (S.map (aVm ad))).stack = ((S.take (mi mid).1).reverse.map (aVm ad)).reverse ++ (S.drop (mi mid).1).map (aVm ad) := by
            show S.map (aVm ad) = _
            rw [← List.map_reverse, List.reverse_reverse, ← List.map_append, List.take_append_drop]
          have hlen : ((S.take (mi mid).1).reverse.map (aVm ad)).length = (mi mid).1 := by
            rw [List.length_map, List.length_reverse, List.length_take]
            omega
          have hcat : (((S.drop (mi mid).1).map (aVm ad)).map fun v => v.category).sum ≤ 8 := by
            have e7 : (((S.drop (mi mid).1).map (aVm ad)).map fun v => v.category) = (S.drop (mi mid).1).map fun v => v.category := by
              rw [List.map_map]
              exact List.map_congr_left fun v _ => aVm_cat ad v
            rw [e7]
            exact k2
          have hR1 : (aRm (d + 1) 40).frames = d + 1 + 8 := rfl
          have hR2 : (aRm (d + 1) 40).locals = 80 * (d + 1) + 200 := rfl
          have w14' : M'.2.1 ≤ 60 := w14
          have hR : (aRm (d + 1) 40).frames + 1 ≤ R.frames ∧ 8 + (M'.2.1 + 11) + (aRm (d + 1) 40).locals ≤ R.locals := ⟨by omega, by omega⟩
          have hcw := vx_cwSW (R := R) (mc := 40) (ms := 240) (rm := aRm (d + 1) 40) (mi mid).1 hts hG2 rfl rfl rfl ⟨w11, w12, w13⟩ hR
          refine aBack2 (vx_runSX (n := (mi mid).1) ⟨hx, hb, hml, hown, hts⟩ hmet hcw ⟨hblind, hpre⟩ rfl hlen hL.size hstk (lv_room hcat) hdg ⟨by omega, by omega⟩) hS hv (fun H1 locs1 hP1 hS1 => ?_)
          have := hnext _ _ _ _ (cells + 40) (by omega) (Option.some.inj hgo).symm ls H1 locs1 hL hP1 hS1
          rw [List.map_append] at this
          rw [hvm ad] at this
          rw [show 6 * cells + 240 = 6 * (cells + 40) by omega]
          exact this
        · rcases aTh_some hth with ⟨-, h2⟩ | ⟨l', t, h2, -⟩
          · exact absurd (hinr _ (Option.some.inj h2).symm) (hno _ _)
          · cases h2
    · cases hst
end ALw
