/-! ===== THE LAW, FROM ITS ENTRY, out of what a turn of its loop does (the pure part) ===== -/
/-- WHAT THE PURE PART OWES: something that holds of the abstract heap at the start, and that each turn keeps, or the law ends with 1 -/
def lwInv (Inv : Nat × (Nat → Int32) → aH → Prop) : Prop := (∀ G, Inv G tS0) ∧ ∀ (G : Nat × (Nat → Int32)) (i : Nat) (σ : aH), G.1 ≤ 3072 → i ≤ G.1 → Inv G σ → (∃ σ', lwTurn G i σ = some (.inr (.inl (some (.int 1)), σ'))) ∨ (i + 6 ≤ G.1 ∧ ∃ σ', lwTurn G i σ = some (.inl (lwSt (i + 6) σ')) ∧ Inv G σ')
theorem lw_code_ok : ∀ q ∈ M_law.2.2.1, aCk tfL tpL tgL tkkL twL tvL tyyL ttL 3 code q = true := fun q hq => List.all_eq_true.mp ck_law q hq
set_option maxHeartbeats 4000000 in
theorem lwLoop {Inv : Nat × (Nat → Int32) → aH → Prop} (hI : lwInv Inv) {p : Program} {l : Launch} {e : Env} {s : State} {m : MethodId} {b : Nat} {below : List Frame} {meth : Method} {c : Code} {G : Nat × (Nat → Int32)} (hG : G.1 ≤ 3072) {D : va_G} {dA : Nat → ClassId} {ad : Nat → Nat}
    (hl : l.stackTraces = false) (hx : p.tables.exec = Jvm.exec) (hb : c.code = code) (hml : c.maxLocals = 7) (hr : meth.sig.returnType = ret) (hlocks : meth.locks = false) (hown : s.vm.findClass R_law = some m.cls) (hts : ∀ w ∈ tWS, w.before #[Value.ref b] s = true) (hnc : va_Nc "java/lang/IllegalArgumentException" "java/util/NoSuchElementException" s)
    (hK : va_K D tCl (aTys dA) s) (hC : aCn (tkd G.1 G.2) tfn tstt tstrs tnst tcst ad s.heap.size s s.heap) (hi : ∀ i j, i < 64 → j < 64 → ad i = ad j → i = j) (hg : ∀ i, i < 64 → s.heap.size ≤ ad i) :
    ∀ (k i : Nat), G.1 - i ≤ k → i ≤ G.1 → ∀ (σ : aH), Inv G σ → ∀ (cells : Nat) (H : Heap) (locs : List Loc) (ls : Array Slot), cells + 7 * (G.1 - i) ≤ 24504 → aLr ad 7 ls (lwSt i σ).2.1 → va_P D tCl (aWs 64 dA ad (tkd G.1 G.2) σ) H → va_S (aA s.heap.size) s.heap H locs →
      W p l e room_1 s m #[Value.ref b] below meth c H locs cells (6 * cells) (lw_Z below #[Value.ref b] s) (F0 m 23 ls []) := by
  have hfin : ∀ (cells : Nat) (H : Heap) (locs : List Loc) (ls : Array Slot) (pc' : Nat), cells ≤ 24544 → decode code pc' = .ok (.ireturn, 1) → va_S (aA s.heap.size) s.heap H locs → W p l e room_1 s m #[Value.ref b] below meth c H locs cells (6 * cells) (lw_Z below #[Value.ref b] s) (F0 m pc' ls [.int 1]) := by
    intro cells H locs ls pc' hc hd hS
    refine va_forget (fun q hq => hS.2.2 q hq) ?_
    refine W.widen (k := 601024) (n := 7293034) (by omega) (by omega) ?_
    exact lw_ret hx hb hr hlocks hd
  intro k
  induction k with
  | zero =>
    intro i hk hiL σ hσ cells H locs ls hcells hL hP hS
    rcases hI.2 G i σ hG hiL hσ with ⟨σ', ht⟩ | ⟨h6, -⟩
    · refine aLawSeg (D := D) (cn := tcn) (ow := tow) (xs := txs) (hh := thh) (nc := tnc) (wL := twL) (own := 3) (cc := code) (M := M_law) (Cmax := cells + 40) (stop := 23) (R := room_1) hl tWS_good tk_w1 tk_w2 tk_w3 tk_w4 tk_cN tk_kN (aWs_D hi hg) tfL_ok tpL_ok tgL_ok tkkL_ok tyyL_ok ttL_ok tcL_ok tvL_ok tmt_ok rfl lw_code_ok tvN_ok twL_ok hx hb hml hown hnc hts hK hC (by decide) (by decide) (by show _ ≤ 601024; omega) (by show _ ≤ 7293034; omega) (fun k σ' h => by cases h) ttN_ok (fun st' h => by cases h) (fun v σ2 h cells' H' locs' ls' pc' hc' hro hS' => ?_) 200 1 (lwSt i σ) ht cells H locs ls (Nat.le_refl _) hL hP hS
      cases h
      exact hfin cells' H' locs' ls' pc' (by omega) hro.1 hS'
    · omega
  | succ k ih =>
    intro i hk hiL σ hσ cells H locs ls hcells hL hP hS
    rcases hI.2 G i σ hG hiL hσ with ⟨σ', ht⟩ | ⟨h6, σ', ht, hσ'⟩
    · refine aLawSeg (D := D) (cn := tcn) (ow := tow) (xs := txs) (hh := thh) (nc := tnc) (wL := twL) (own := 3) (cc := code) (M := M_law) (Cmax := cells + 40) (stop := 23) (R := room_1) hl tWS_good tk_w1 tk_w2 tk_w3 tk_w4 tk_cN tk_kN (aWs_D hi hg) tfL_ok tpL_ok tgL_ok tkkL_ok tyyL_ok ttL_ok tcL_ok tvL_ok tmt_ok rfl lw_code_ok tvN_ok twL_ok hx hb hml hown hnc hts hK hC (by decide) (by decide) (by show _ ≤ 601024; omega) (by show _ ≤ 7293034; omega) (fun k σ' h => by cases h) ttN_ok (fun st' h => by cases h) (fun v σ2 h cells' H' locs' ls' pc' hc' hro hS' => ?_) 200 1 (lwSt i σ) ht cells H locs ls (Nat.le_refl _) hL hP hS
      cases h
      exact hfin cells' H' locs' ls' pc' (by omega) hro.1 hS'
    · refine aLawSeg (D := D) (cn := tcn) (ow := tow) (xs := txs) (hh := thh) (nc := tnc) (wL := twL) (own := 3) (cc := code) (M := M_law) (Cmax := cells + 40) (stop := 23) (R := room_1) hl tWS_good tk_w1 tk_w2 tk_w3 tk_w4 tk_cN tk_kN (aWs_D hi hg) tfL_ok tpL_ok tgL_ok tkkL_ok tyyL_ok ttL_ok tcL_ok tvL_ok tmt_ok rfl lw_code_ok tvN_ok twL_ok hx hb hml hown hnc hts hK hC (by decide) (by decide) (by show _ ≤ 601024; omega) (by show _ ≤ 7293034; omega) (fun k σ' h => by cases h) ttN_ok (fun st' h cells' H' locs' ls' hc' hL' hP' hS' => ?_) (fun v σ2 h => by cases h) 200 1 (lwSt i σ) ht cells H locs ls (Nat.le_refl _) hL hP hS
      cases h
      exact ih (i + 6) (by omega) h6 σ' hσ' cells' H' locs' ls' (by omega) hL' hP' hS'
set_option maxHeartbeats 8000000 in
set_option maxRecDepth 100000 in
/-- THE LAW, from its entry, if the pure part holds -/
theorem whole_start_open {Inv : Nat × (Nat → Int32) → aH → Prop} (hI : lwInv Inv) {p : Program} {e : Env} {s : State} {m : MethodId} {below : List Frame} {meth : Method} {c : Code} (l : Launch) (hflags : l.flags = flags0) {b L : Nat} {xs : Nat → Int32} (hL : L ≤ 3072) (C0 : lw_At p s m meth c b L xs) : W p l e room_1 s m #[Value.ref b] below meth c s.heap [] 0 0 (lw_Z below #[Value.ref b] s) (entryFrame m ([Value.ref b] : List Value).toArray 7) := by
  obtain ⟨hx, hb, hr, hml, hown, hts, hX, hbl, hlocks, hgv⟩ := id C0
  have hs := flat_of_before _ hgv
  have hl : l.stackTraces = false := by
    unfold Launch.stackTraces
    rw [hflags]
    decide
  have htW : ∀ w ∈ tWS, w.before #[Value.ref b] s = true := fun w hw => hts w (List.mem_filter.mp hw).1
  obtain ⟨l0, z0, hl0, hCn⟩ := aCn_start hts hs hX hbl (by omega)
  -- the classes' numbers
  have hKc : ∀ k : Nat, ∃ q : ClassId × (Nat → Nat), ∀ r : vw_C, tCl[k]? = some r → u_Kn s r.1 r.2.1 r.2.2 q.1 q.2 := by
    intro k
    cases hk : tCl[k]? with
    | none => exact ⟨(0, fun _ => 0), fun r h => by cases h⟩
    | some r =>
      obtain ⟨C, T, n⟩ := r
      obtain ⟨-, -, c3, -, -, -, c7, c8⟩ := tkcls k C T n hk
      obtain ⟨c0, iS, h0⟩ := u_known (C := C) (T := T) (N := n) (n := n) htW c3 (htW _ c7)
      exact ⟨(c0, iS), fun r h => by cases h; exact h0⟩
  obtain ⟨kc, hkc⟩ := Classical.axiomOfChoice hKc
  have hK0 : va_K (fun k => (kc k).1, fun k => (kc k).2) tCl [] s := ⟨fun k q hq => hkc k q hq, fun k q h => by simp at h⟩
  -- the array classes
  have hdA : ∃ dA : Nat → ClassId, kDA dA s ∧ ∀ t, t < 4 → ArrOfT s (dA t) (aTy t) ∧ va_RA s (dA t) (aTy t) := by
    have h1 : ∀ t : Nat, ∃ c : ClassId, t < 4 → s.vm.findClass ("[" ++ (aTy t).toString) = some c ∧ ArrOfT s c (aTy t) := by
      intro t
      by_cases ht : t < 4
      · obtain ⟨c, k, comp, e1, e2, e3⟩ := Cond.arrayClass_spec (htW _ (tkarr t ht))
        exact ⟨c, fun _ => ⟨e1, fun N z => ⟨fun k h => (by cases h), k, e2, comp, e3⟩⟩⟩
      · exact ⟨0, fun h => absurd h ht⟩
    obtain ⟨dA, h2⟩ := Classical.axiomOfChoice h1
    refine ⟨dA, fun t ht => (h2 t ht).1, fun t ht => ⟨(h2 t ht).2, ?_⟩⟩
    have h3 := (h2 t ht).1
    rcases (show t = 0 ∨ t = 1 ∨ t = 2 ∨ t = 3 by omega) with rfl | rfl | rfl | rfl <;> exact h3
  obtain ⟨dA, hdA1, hdA2⟩ := hdA
  have hKt : va_K (fun k => (kc k).1, fun k => (kc k).2) tCl (aTys dA) s := ⟨fun k q hq => hkc k q hq, fun k q hq => by
    match k, hq with
    | 0, hq => cases hq; exact hdA2 0 (by decide)
    | 1, hq => cases hq; exact hdA2 1 (by decide)
    | 2, hq => cases hq; exact hdA2 2 (by decide)
    | 3, hq => cases hq; exact hdA2 3 (by decide)
    | k + 4, hq => simp at hq⟩
  have hNk : ∀ q ∈ tknst, va_Nw (.methodLinkNest q.1 q.2.1 q.2.2.1 q.2.2.2) s := tknst_ok hts
  have hnc := snc hts hs
  rw [lg_entry_eq]
  -- the objects are made
  have key : ∀ (n : Nat) (st : kSt), kTo 23 tdfl ttyF (kRun tdfl ttyF tkm 5) kcL n st = some (23, [some (.ref 1000), some (.ref 0), some (.ref 33), some (.ref 63), some (.int 0), none, none], [], tHs) → ∀ (ad : Nat → Nat) (H : Heap) (locs : List Loc) (ls : Array Slot) (cells slots : Nat), ad 1000 = b → cells = st.2.2.2.length → slots = kSum st.2.2.2 → aLr ad 7 ls st.2.1 → va_P (fun k => (kc k).1, fun k => (kc k).2) tCl (kWs dA ad st.2.2.2) H → va_D (aA s.heap.size) (kWs dA ad st.2.2.2) → va_S (aA s.heap.size) s.heap H locs →
      W p l e room_1 s m #[Value.ref b] below meth c H locs cells slots (lw_Z below #[Value.ref b] s) (F0 m st.1 ls (st.2.2.1.map (aVm ad))) := by
    intro n
    induction n with
    | zero => intro st h; cases h
    | succ n ih =>
      intro st h ad H locs ls cells slots hadb hce hsl hLr hP hD hS
      obtain ⟨pc, L1, S1, hs1⟩ := st
      unfold kTo at h
      cases hst : kStep tdfl ttyF (kRun tdfl ttyF tkm 5) kcL (pc, L1, S1, hs1) with
      | none => rw [hst] at h; cases h
      | some o =>
        rw [hst] at h
        have hmono : ∀ mid b hs hs', kRun tdfl ttyF tkm 5 mid b hs = some hs' → hs.length ≤ hs'.length ∧ kSum hs ≤ kSum hs' := fun mid b hs hs' h => ⟨(kSound (l := l) (D := (fun k => (kc k).1, fun k => (kc k).2)) (dA := dA) (B0 := s.heap.size) (nst := tknst) (ow := tkow) tWS_good tkcls tkm_ok 5 mid b hs hs' h).1, (kSound (l := l) (D := (fun k => (kc k).1, fun k => (kc k).2)) (dA := dA) (B0 := s.heap.size) (nst := tknst) (ow := tkow) tWS_good tkcls tkm_ok 5 mid b hs hs' h).2.1⟩
        have hbound : ∀ st', o = .inl st' → st'.2.2.2.length ≤ tHs.length ∧ kSum st'.2.2.2 ≤ kSum tHs := by
          intro st' ho
          subst ho
          have h' : (match Nat.beq st'.1 23 with
            | true => some st'
            | false => kTo 23 tdfl ttyF (kRun tdfl ttyF tkm 5) kcL n st') = some (23, [some (.ref 1000), some (.ref 0), some (.ref 33), some (.ref 63), some (.int 0), none, none], [], tHs) := h
          split at h'
          · cases h'; exact ⟨Nat.le_refl _, Nat.le_refl _⟩
          · exact kTo_mono hmono n h'
        have hz1 : tHs.length = 64 := rfl
        have hz2 : kSum tHs ≤ 18000 := by decide +kernel
        refine kStepW (ini := false) (hs0 := []) (d := 5) (own := 3) (cn := tcn) (nL := 7) hx hb hml hown htW tWS_good hK0 hdA1 (Nat.le_refl _) hNk tkcls (fun h => by cases h) (kSound (ow := tkow) tWS_good tkcls tkm_ok 5) (by decide) (by decide) kcL_ok hst hLr hP hD hS (by rw [hce]; rfl) (by rw [hsl]; rfl) (Nat.zero_le _) (fun st' ho => ?_) (fun pc' L' S' hs2 ho ad2 H' locs' ls' cells' slots' ha2 hle2 hce2 hsl2 hL2 hP2 hD2 hS2 => ?_) (fun ho => ?_)
        · obtain ⟨b1, b2⟩ := hbound st' ho
          have r1 : room_1.cells = 601024 := rfl
          have r2 : room_1.slots = 7293034 := rfl
          exact ⟨by rw [r1]; show _ ≤ 0 + 601024; omega, by rw [r2]; show _ ≤ 0 + 7293034; omega⟩
        · subst ho
          have hadb2 : ad2 1000 = b := (ha2 1000 (Or.inr (Nat.le_refl _))).trans hadb
          have hce3 : cells' = hs2.length := hce2
          have hsl3 : slots' = kSum hs2 := hsl2
          have h' : (match Nat.beq pc' 23 with
            | true => some (pc', L', S', hs2)
            | false => kTo 23 tdfl ttyF (kRun tdfl ttyF tkm 5) kcL n (pc', L', S', hs2)) = some (23, [some (.ref 1000), some (.ref 0), some (.ref 33), some (.ref 63), some (.int 0), none, none], [], tHs) := h
          split at h'
          · cases h'
            refine W.widen (k := 3000) (n := 6 * 3000) (by rw [hce3]; decide) (by rw [hsl3]; omega) ?_
            have hdist : ∀ i j, i < 64 → j < 64 → kAd2 ad2 b l0 z0 i = kAd2 ad2 b l0 z0 j → i = j := by
              intro i j hi hj hij
              have e1 : kAd2 ad2 b l0 z0 i = ad2 i := by unfold kAd2; rw [if_pos hi]
              have e2 : kAd2 ad2 b l0 z0 j = ad2 j := by unfold kAd2; rw [if_pos hj]
              rw [e1, e2] at hij
              have g1 : i < tHs.length := hi
              have g2 : j < tHs.length := hj
              exact hD2.1 i j _ _ (kWs_get (List.getElem?_eq_getElem g1)) (kWs_get (List.getElem?_eq_getElem g2)) hij
            have hge : ∀ i, i < 64 → s.heap.size ≤ kAd2 ad2 b l0 z0 i := by
              intro i hi
              have e1 : kAd2 ad2 b l0 z0 i = ad2 i := by unfold kAd2; rw [if_pos hi]
              rw [e1]
              have g1 : i < tHs.length := hi
              exact hD2.2 i _ (kWs_get (List.getElem?_eq_getElem g1))
            refine lwLoop hI (G := (L, xs)) hL (ad := kAd2 ad2 b l0 z0) (dA := dA) hl hx hb hml hr hlocks hown htW hnc hKt (hCn ad2) hdist hge L 0 (Nat.le_refl _) (Nat.zero_le _) tS0 (hI.1 _) 3000 H' locs' ls' (by show 3000 + 7 * (L - 0) ≤ 24504; omega) ?_ (by rw [← kAll]; exact hP2) hS2
            obtain ⟨q1, lv, q2, q3⟩ := hL2
            refine ⟨rfl, lv, q2, fun i v hv => ?_⟩
            match i, hv with
            | 0, hv =>
              cases hv
              have := q3 0 (.ref 1000) rfl
              have e1 : aVm ad2 (.ref 1000) = .ref b := by show Value.ref (ad2 1000) = _; rw [hadb2]
              have e2 : aVm (kAd2 ad2 b l0 z0) (.ref 130) = .ref b := by
                show Value.ref (kAd2 ad2 b l0 z0 130) = _
                unfold kAd2 kCs
                rw [if_neg (by omega), if_neg (by omega), kGetD (by rw [hl0]; decide)]
              rw [e2, ← e1]
              exact this
            | 1, hv => cases hv; exact q3 1 (.ref 0) rfl
            | 2, hv => cases hv; exact q3 2 (.ref 33) rfl
            | 3, hv => cases hv; exact q3 3 (.ref 63) rfl
            | 4, hv => cases hv; exact q3 4 (.int 0) rfl
            | 5, hv => cases hv
            | 6, hv => cases hv
            | i + 7, hv => simp [lwSt] at hv
          · exact ih _ h' ad2 H' locs' ls' cells' slots' hadb2 hce3 hsl3 hL2 hP2 hD2 hS2
        · subst ho
          cases h
  exact key 40 (0, [some (.ref 1000), none, none, none, none, none, none], [], []) tkInit (fun i => if i = 1000 then b else 0) s.heap [] _ 0 0 rfl rfl rfl (aLr_entry (fun i => if i = 1000 then b else 0) [.ref 1000] (n := 7) (by decide)) (fun k q h => by simp [kWs] at h) ⟨fun i j p q h => by simp [kWs] at h, fun k q h => by simp [kWs] at h⟩ va_S.rf
