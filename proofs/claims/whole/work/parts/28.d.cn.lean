/-! ===== what never changes, at the start (by wip/gen/emit_open.py) ===== -/
theorem tkd_cases2 {sl : Nat} {xs : Nat → Int32} {i : Nat} {K : aKd} (h : tkd sl xs i = K) : tkL[i]? = some K ∨ (tkL[i]? = none ∧ K = .inr (.inr (.inl (if i = 130 then 0 else 9, sl, xs)))) := by
  unfold tkd at h
  cases hk : tkL[i]? with
  | none => rw [hk] at h; exact Or.inr ⟨rfl, h.symm⟩
  | some k =>
    rw [hk] at h
    exact Or.inl (congrArg some h)
def kPK (ad : Nat → Nat) (s : State) (q : aKd × Nat) : Prop := match q.1 with
  | .inr (.inr (.inl (t, n, f))) => va_T (aTy t) (ad q.2) n (fun j => .int (f j)) (aA s.heap.size) s s.heap
  | .inr (.inr (.inr (c, nm, vs))) => va_O nm (ad q.2) (aA s.heap.size) s s.heap ∧ ∀ (k : Nat) (v : Value), vs[k]? = some v → va_OF (tfn c k).1 (tfn c k).2.1 (tfn c k).2.2 (aVm ad v) (ad q.2) (aA s.heap.size) s s.heap
  | _ => True
theorem kPKs {ad : Nat → Nat} {s : State} {i j : Nat} (h1 : va_O "java/lang/String" (ad i) (aA s.heap.size) s s.heap) (h2 : va_OF "java/lang/String" "value" "[B" (.ref (ad j)) (ad i) (aA s.heap.size) s s.heap) (h3 : va_OF "java/lang/String" "coder" "B" (.int 0) (ad i) (aA s.heap.size) s s.heap) : kPK ad s (.inr (.inr (.inr (20, "java/lang/String", [.ref j, .int 0]))), i) := by
  refine ⟨h1, fun k v hv => ?_⟩
  match k, hv with
  | 0, hv => cases hv; exact h2
  | 1, hv => cases hv; exact h3
  | k + 2, hv => simp at hv
theorem kGetD {l : List Nat} {n b : Nat} (h : l.length ≤ n) : l.getD n b = b := by rw [List.getD_eq_getElem?_getD, List.getElem?_eq_none h]; rfl
def kCs (b : Nat) (l : List Nat) (i : Nat) : Nat := l.getD (i - 64) b
def kAd2 (ad : Nat → Nat) (b : Nat) (l : List Nat) (z : Nat) (i : Nat) : Nat := if i < 64 then ad i else if i = 2000 then z else kCs b l i
set_option maxRecDepth 1000000 in
set_option maxHeartbeats 8000000 in
theorem aCn_start {s : State} {b : Nat} (hts : ∀ w ∈ lw_tbl, w.before #[Value.ref b] s = true) (hs : ∀ c ∈ flatC (Jvm.Cond.and given_1 narrow_1), c.before #[Value.ref b] s = true) {L : Nat} {xs : Nat → Int32} (hX : va_X b L xs s s.heap) (hbl : b < s.heap.size) (hL : L < 2 ^ 31) :
    ∃ (l : List Nat) (z : Nat), l.length = 66 ∧ ∀ ad : Nat → Nat, aCn (tkd L xs) tfn tstt tstrs tnst tcst (kAd2 ad b l z) s.heap.size s s.heap := by
  obtain ⟨z, hF0⟩ := sf_0 hts hs
  obtain ⟨t0, hT0, hZ0⟩ := sa_0 hts hs
  obtain ⟨t1, hT1, hZ1⟩ := sa_1 hts hs
  obtain ⟨t2, hT2, hZ2⟩ := sa_2 hts hs
  obtain ⟨t3, hT3, hZ3⟩ := sa_3 hts hs
  obtain ⟨t4, hT4, hZ4⟩ := sa_4 hts hs
  obtain ⟨t5, hT5, hZ5⟩ := sa_5 hts hs
  obtain ⟨q0, r0, o0, v0, c0, b0⟩ := ss_0 hts hs
  obtain ⟨q1, r1, o1, v1, c1, b1⟩ := ss_1 hts hs
  obtain ⟨q2, r2, o2, v2, c2, b2⟩ := ss_2 hts hs
  obtain ⟨q3, r3, o3, v3, c3, b3⟩ := ss_3 hts hs
  obtain ⟨q4, r4, o4, v4, c4, b4⟩ := ss_4 hts hs
  obtain ⟨q5, r5, o5, v5, c5, b5⟩ := ss_5 hts hs
  obtain ⟨q6, r6, o6, v6, c6, b6⟩ := ss_6 hts hs
  obtain ⟨q7, r7, o7, v7, c7, b7⟩ := ss_7 hts hs
  obtain ⟨q8, r8, o8, v8, c8, b8⟩ := ss_8 hts hs
  obtain ⟨q9, r9, o9, v9, c9, b9⟩ := ss_9 hts hs
  obtain ⟨q10, r10, o10, v10, c10, b10⟩ := ss_10 hts hs
  obtain ⟨q11, r11, o11, v11, c11, b11⟩ := ss_11 hts hs
  obtain ⟨q12, r12, o12, v12, c12, b12⟩ := ss_12 hts hs
  obtain ⟨q13, r13, o13, v13, c13, b13⟩ := ss_13 hts hs
  obtain ⟨q14, r14, o14, v14, c14, b14⟩ := ss_14 hts hs
  obtain ⟨q15, r15, o15, v15, c15, b15⟩ := ss_15 hts hs
  obtain ⟨q16, r16, o16, v16, c16, b16⟩ := ss_16 hts hs
  obtain ⟨q17, r17, o17, v17, c17, b17⟩ := ss_17 hts hs
  obtain ⟨q18, r18, o18, v18, c18, b18⟩ := ss_18 hts hs
  obtain ⟨q19, r19, o19, v19, c19, b19⟩ := ss_19 hts hs
  obtain ⟨q20, r20, o20, v20, c20, b20⟩ := ss_20 hts hs
  obtain ⟨q21, r21, o21, v21, c21, b21⟩ := ss_21 hts hs
  obtain ⟨q22, r22, o22, v22, c22, b22⟩ := ss_22 hts hs
  obtain ⟨q23, r23, o23, v23, c23, b23⟩ := ss_23 hts hs
  obtain ⟨q24, r24, o24, v24, c24, b24⟩ := ss_24 hts hs
  obtain ⟨q25, r25, o25, v25, c25, b25⟩ := ss_25 hts hs
  obtain ⟨q26, r26, o26, v26, c26, b26⟩ := ss_26 hts hs
  obtain ⟨q27, r27, o27, v27, c27, b27⟩ := ss_27 hts hs
  obtain ⟨q28, r28, o28, v28, c28, b28⟩ := ss_28 hts hs
  obtain ⟨q29, r29, o29, v29, c29, b29⟩ := ss_29 hts hs
  refine ⟨[t0, t1, t2, t3, t4, t5, (q0).1, (q0).2, (q1).1, (q1).2, (q2).1, (q2).2, (q3).1, (q3).2, (q4).1, (q4).2, (q5).1, (q5).2, (q6).1, (q6).2, (q7).1, (q7).2, (q8).1, (q8).2, (q9).1, (q9).2, (q10).1, (q10).2, (q11).1, (q11).2, (q12).1, (q12).2, (q13).1, (q13).2, (q14).1, (q14).2, (q15).1, (q15).2, (q16).1, (q16).2, (q17).1, (q17).2, (q18).1, (q18).2, (q19).1, (q19).2, (q20).1, (q20).2, (q21).1, (q21).2, (q22).1, (q22).2, (q23).1, (q23).2, (q24).1, (q24).2, (q25).1, (q25).2, (q26).1, (q26).2, (q27).1, (q27).2, (q28).1, (q28).2, (q29).1, (q29).2], z, rfl, fun ad => ?_⟩
  have hPK : ∀ q ∈ tkL.zipIdx, kPK (kAd2 ad b [t0, t1, t2, t3, t4, t5, (q0).1, (q0).2, (q1).1, (q1).2, (q2).1, (q2).2, (q3).1, (q3).2, (q4).1, (q4).2, (q5).1, (q5).2, (q6).1, (q6).2, (q7).1, (q7).2, (q8).1, (q8).2, (q9).1, (q9).2, (q10).1, (q10).2, (q11).1, (q11).2, (q12).1, (q12).2, (q13).1, (q13).2, (q14).1, (q14).2, (q15).1, (q15).2, (q16).1, (q16).2, (q17).1, (q17).2, (q18).1, (q18).2, (q19).1, (q19).2, (q20).1, (q20).2, (q21).1, (q21).2, (q22).1, (q22).2, (q23).1, (q23).2, (q24).1, (q24).2, (q25).1, (q25).2, (q26).1, (q26).2, (q27).1, (q27).2, (q28).1, (q28).2, (q29).1, (q29).2] z) s q := List.forall_mem_cons.mpr ⟨trivial, List.forall_mem_cons.mpr ⟨trivial, List.forall_mem_cons.mpr ⟨trivial, List.forall_mem_cons.mpr ⟨trivial, List.forall_mem_cons.mpr ⟨trivial, List.forall_mem_cons.mpr ⟨trivial, List.forall_mem_cons.mpr ⟨trivial, List.forall_mem_cons.mpr ⟨trivial, List.forall_mem_cons.mpr ⟨trivial, List.forall_mem_cons.mpr ⟨trivial, List.forall_mem_cons.mpr ⟨trivial, List.forall_mem_cons.mpr ⟨trivial, List.forall_mem_cons.mpr ⟨trivial, List.forall_mem_cons.mpr ⟨trivial, List.forall_mem_cons.mpr ⟨trivial, List.forall_mem_cons.mpr ⟨trivial, List.forall_mem_cons.mpr ⟨trivial, List.forall_mem_cons.mpr ⟨trivial, List.forall_mem_cons.mpr ⟨trivial, List.forall_mem_cons.mpr ⟨trivial, List.forall_mem_cons.mpr ⟨trivial, List.forall_mem_cons.mpr ⟨trivial, List.forall_mem_cons.mpr ⟨trivial, List.forall_mem_cons.mpr ⟨trivial, List.forall_mem_cons.mpr ⟨trivial, List.forall_mem_cons.mpr ⟨trivial, List.forall_mem_cons.mpr ⟨trivial, List.forall_mem_cons.mpr ⟨trivial, List.forall_mem_cons.mpr ⟨trivial, List.forall_mem_cons.mpr ⟨trivial, List.forall_mem_cons.mpr ⟨trivial, List.forall_mem_cons.mpr ⟨trivial, List.forall_mem_cons.mpr ⟨trivial, List.forall_mem_cons.mpr ⟨trivial, List.forall_mem_cons.mpr ⟨trivial, List.forall_mem_cons.mpr ⟨trivial, List.forall_mem_cons.mpr ⟨trivial, List.forall_mem_cons.mpr ⟨trivial, List.forall_mem_cons.mpr ⟨trivial, List.forall_mem_cons.mpr ⟨trivial, List.forall_mem_cons.mpr ⟨trivial, List.forall_mem_cons.mpr ⟨trivial, List.forall_mem_cons.mpr ⟨trivial, List.forall_mem_cons.mpr ⟨trivial, List.forall_mem_cons.mpr ⟨trivial, List.forall_mem_cons.mpr ⟨trivial, List.forall_mem_cons.mpr ⟨trivial, List.forall_mem_cons.mpr ⟨trivial, List.forall_mem_cons.mpr ⟨trivial, List.forall_mem_cons.mpr ⟨trivial, List.forall_mem_cons.mpr ⟨trivial, List.forall_mem_cons.mpr ⟨trivial, List.forall_mem_cons.mpr ⟨trivial, List.forall_mem_cons.mpr ⟨trivial, List.forall_mem_cons.mpr ⟨trivial, List.forall_mem_cons.mpr ⟨trivial, List.forall_mem_cons.mpr ⟨trivial, List.forall_mem_cons.mpr ⟨trivial, List.forall_mem_cons.mpr ⟨trivial, List.forall_mem_cons.mpr ⟨trivial, List.forall_mem_cons.mpr ⟨trivial, List.forall_mem_cons.mpr ⟨trivial, List.forall_mem_cons.mpr ⟨trivial, List.forall_mem_cons.mpr ⟨trivial, List.forall_mem_cons.mpr ⟨hT0, List.forall_mem_cons.mpr ⟨hT1, List.forall_mem_cons.mpr ⟨hT2, List.forall_mem_cons.mpr ⟨hT3, List.forall_mem_cons.mpr ⟨hT4, List.forall_mem_cons.mpr ⟨hT5, List.forall_mem_cons.mpr ⟨kPKs o0 v0 c0, List.forall_mem_cons.mpr ⟨b0, List.forall_mem_cons.mpr ⟨kPKs o1 v1 c1, List.forall_mem_cons.mpr ⟨b1, List.forall_mem_cons.mpr ⟨kPKs o2 v2 c2, List.forall_mem_cons.mpr ⟨b2, List.forall_mem_cons.mpr ⟨kPKs o3 v3 c3, List.forall_mem_cons.mpr ⟨b3, List.forall_mem_cons.mpr ⟨kPKs o4 v4 c4, List.forall_mem_cons.mpr ⟨b4, List.forall_mem_cons.mpr ⟨kPKs o5 v5 c5, List.forall_mem_cons.mpr ⟨b5, List.forall_mem_cons.mpr ⟨kPKs o6 v6 c6, List.forall_mem_cons.mpr ⟨b6, List.forall_mem_cons.mpr ⟨kPKs o7 v7 c7, List.forall_mem_cons.mpr ⟨b7, List.forall_mem_cons.mpr ⟨kPKs o8 v8 c8, List.forall_mem_cons.mpr ⟨b8, List.forall_mem_cons.mpr ⟨kPKs o9 v9 c9, List.forall_mem_cons.mpr ⟨b9, List.forall_mem_cons.mpr ⟨kPKs o10 v10 c10, List.forall_mem_cons.mpr ⟨b10, List.forall_mem_cons.mpr ⟨kPKs o11 v11 c11, List.forall_mem_cons.mpr ⟨b11, List.forall_mem_cons.mpr ⟨kPKs o12 v12 c12, List.forall_mem_cons.mpr ⟨b12, List.forall_mem_cons.mpr ⟨kPKs o13 v13 c13, List.forall_mem_cons.mpr ⟨b13, List.forall_mem_cons.mpr ⟨kPKs o14 v14 c14, List.forall_mem_cons.mpr ⟨b14, List.forall_mem_cons.mpr ⟨kPKs o15 v15 c15, List.forall_mem_cons.mpr ⟨b15, List.forall_mem_cons.mpr ⟨kPKs o16 v16 c16, List.forall_mem_cons.mpr ⟨b16, List.forall_mem_cons.mpr ⟨kPKs o17 v17 c17, List.forall_mem_cons.mpr ⟨b17, List.forall_mem_cons.mpr ⟨kPKs o18 v18 c18, List.forall_mem_cons.mpr ⟨b18, List.forall_mem_cons.mpr ⟨kPKs o19 v19 c19, List.forall_mem_cons.mpr ⟨b19, List.forall_mem_cons.mpr ⟨kPKs o20 v20 c20, List.forall_mem_cons.mpr ⟨b20, List.forall_mem_cons.mpr ⟨kPKs o21 v21 c21, List.forall_mem_cons.mpr ⟨b21, List.forall_mem_cons.mpr ⟨kPKs o22 v22 c22, List.forall_mem_cons.mpr ⟨b22, List.forall_mem_cons.mpr ⟨kPKs o23 v23 c23, List.forall_mem_cons.mpr ⟨b23, List.forall_mem_cons.mpr ⟨kPKs o24 v24 c24, List.forall_mem_cons.mpr ⟨b24, List.forall_mem_cons.mpr ⟨kPKs o25 v25 c25, List.forall_mem_cons.mpr ⟨b25, List.forall_mem_cons.mpr ⟨kPKs o26 v26 c26, List.forall_mem_cons.mpr ⟨b26, List.forall_mem_cons.mpr ⟨kPKs o27 v27 c27, List.forall_mem_cons.mpr ⟨b27, List.forall_mem_cons.mpr ⟨kPKs o28 v28 c28, List.forall_mem_cons.mpr ⟨b28, List.forall_mem_cons.mpr ⟨kPKs o29 v29 c29, List.forall_mem_cons.mpr ⟨b29, fun _ h => (List.not_mem_nil h).elim⟩⟩⟩⟩⟩⟩⟩⟩⟩⟩⟩⟩⟩⟩⟩⟩⟩⟩⟩⟩⟩⟩⟩⟩⟩⟩⟩⟩⟩⟩⟩⟩⟩⟩⟩⟩⟩⟩⟩⟩⟩⟩⟩⟩⟩⟩⟩⟩⟩⟩⟩⟩⟩⟩⟩⟩⟩⟩⟩⟩⟩⟩⟩⟩⟩⟩⟩⟩⟩⟩⟩⟩⟩⟩⟩⟩⟩⟩⟩⟩⟩⟩⟩⟩⟩⟩⟩⟩⟩⟩⟩⟩⟩⟩⟩⟩⟩⟩⟩⟩⟩⟩⟩⟩⟩⟩⟩⟩⟩⟩⟩⟩⟩⟩⟩⟩⟩⟩⟩⟩⟩⟩⟩⟩⟩⟩⟩⟩⟩⟩
  refine ⟨fun i t n f hk ht => ?_, fun i c nm vs hk => ?_, List.forall_mem_cons.mpr ⟨hZ0, List.forall_mem_cons.mpr ⟨hZ1, List.forall_mem_cons.mpr ⟨hZ2, List.forall_mem_cons.mpr ⟨hZ3, List.forall_mem_cons.mpr ⟨hZ4, List.forall_mem_cons.mpr ⟨hZ5, List.forall_mem_cons.mpr ⟨si_0 hts hs, List.forall_mem_cons.mpr ⟨hF0, fun _ h => (List.not_mem_nil h).elim⟩⟩⟩⟩⟩⟩⟩⟩, List.forall_mem_cons.mpr ⟨r0, List.forall_mem_cons.mpr ⟨r1, List.forall_mem_cons.mpr ⟨r2, List.forall_mem_cons.mpr ⟨r3, List.forall_mem_cons.mpr ⟨r4, List.forall_mem_cons.mpr ⟨r5, List.forall_mem_cons.mpr ⟨r6, List.forall_mem_cons.mpr ⟨r7, List.forall_mem_cons.mpr ⟨r8, List.forall_mem_cons.mpr ⟨r9, List.forall_mem_cons.mpr ⟨r10, List.forall_mem_cons.mpr ⟨r11, List.forall_mem_cons.mpr ⟨r12, List.forall_mem_cons.mpr ⟨r13, List.forall_mem_cons.mpr ⟨r14, List.forall_mem_cons.mpr ⟨r15, List.forall_mem_cons.mpr ⟨r16, List.forall_mem_cons.mpr ⟨r17, List.forall_mem_cons.mpr ⟨r18, List.forall_mem_cons.mpr ⟨r19, List.forall_mem_cons.mpr ⟨r20, List.forall_mem_cons.mpr ⟨r21, List.forall_mem_cons.mpr ⟨r22, List.forall_mem_cons.mpr ⟨r23, List.forall_mem_cons.mpr ⟨r24, List.forall_mem_cons.mpr ⟨r25, List.forall_mem_cons.mpr ⟨r26, List.forall_mem_cons.mpr ⟨r27, List.forall_mem_cons.mpr ⟨r28, List.forall_mem_cons.mpr ⟨r29, fun _ h => (List.not_mem_nil h).elim⟩⟩⟩⟩⟩⟩⟩⟩⟩⟩⟩⟩⟩⟩⟩⟩⟩⟩⟩⟩⟩⟩⟩⟩⟩⟩⟩⟩⟩⟩, List.forall_mem_cons.mpr ⟨va_Nw.of rfl (hts _ (List.mem_of_getElem? (i := 414) rfl)), List.forall_mem_cons.mpr ⟨va_Nw.of rfl (hts _ (List.mem_of_getElem? (i := 462) rfl)), List.forall_mem_cons.mpr ⟨va_Nw.of rfl (hts _ (List.mem_of_getElem? (i := 690) rfl)), List.forall_mem_cons.mpr ⟨va_Nw.of rfl (hts _ (List.mem_of_getElem? (i := 808) rfl)), List.forall_mem_cons.mpr ⟨va_Nw.of rfl (hts _ (List.mem_of_getElem? (i := 837) rfl)), List.forall_mem_cons.mpr ⟨va_Nw.of rfl (hts _ (List.mem_of_getElem? (i := 897) rfl)), List.forall_mem_cons.mpr ⟨va_Nw.of rfl (hts _ (List.mem_of_getElem? (i := 914) rfl)), List.forall_mem_cons.mpr ⟨va_Nw.of rfl (hts _ (List.mem_of_getElem? (i := 959) rfl)), List.forall_mem_cons.mpr ⟨va_Nw.of rfl (hts _ (List.mem_of_getElem? (i := 971) rfl)), List.forall_mem_cons.mpr ⟨va_Nw.of rfl (hts _ (List.mem_of_getElem? (i := 1239) rfl)), List.forall_mem_cons.mpr ⟨va_Nw.of rfl (hts _ (List.mem_of_getElem? (i := 1247) rfl)), fun _ h => (List.not_mem_nil h).elim⟩⟩⟩⟩⟩⟩⟩⟩⟩⟩⟩, fun w hw => ⟨tcst_ok w hw, va_Nw.of (tcst_ok w hw).1 (hts w ?_)⟩, sz_0 hts hs, sz_1 hts hs⟩
  · rcases tkd_cases2 hk with h | ⟨h, hK⟩
    · exact hPK (_, i) (List.mk_mem_zipIdx_iff_getElem?.mpr h)
    · cases hK
      have hi3 : i = 130 := by
        by_cases e : i = 130
        · exact e
        · rw [if_neg e] at ht
          omega
      have hi : 130 ≤ i := Nat.le_of_eq hi3.symm
      have hi2 : ¬ i = 2000 := by omega
      have e : kAd2 ad b [t0, t1, t2, t3, t4, t5, (q0).1, (q0).2, (q1).1, (q1).2, (q2).1, (q2).2, (q3).1, (q3).2, (q4).1, (q4).2, (q5).1, (q5).2, (q6).1, (q6).2, (q7).1, (q7).2, (q8).1, (q8).2, (q9).1, (q9).2, (q10).1, (q10).2, (q11).1, (q11).2, (q12).1, (q12).2, (q13).1, (q13).2, (q14).1, (q14).2, (q15).1, (q15).2, (q16).1, (q16).2, (q17).1, (q17).2, (q18).1, (q18).2, (q19).1, (q19).2, (q20).1, (q20).2, (q21).1, (q21).2, (q22).1, (q22).2, (q23).1, (q23).2, (q24).1, (q24).2, (q25).1, (q25).2, (q26).1, (q26).2, (q27).1, (q27).2, (q28).1, (q28).2, (q29).1, (q29).2] z i = b := by
        unfold kAd2 kCs
        rw [if_neg (by omega), if_neg hi2, kGetD (by show 66 ≤ _; omega)]
      rw [e, if_pos hi3]
      obtain ⟨scr, x1, x2, x3, x4, x5⟩ := hX
      refine ⟨scr, x1, x2, x3, by rw [x4]; exact Nat.le_refl _, by rw [x4], x5, aA_no b hbl⟩
  · rcases tkd_cases2 hk with h | ⟨h, hK⟩
    · exact hPK (_, i) (List.mk_mem_zipIdx_iff_getElem?.mpr h)
    · cases hK
  · have h1 := (List.mem_filter.mp hw).1
    rcases List.mem_append.mp h1 with h2 | h2
    · exact of_decide_eq_true (List.all_eq_true.mp tt_0 w h2)
    · exact of_decide_eq_true (List.all_eq_true.mp tt_1 w h2)
