/-! ===== a turn of the law, by what class and reference answer (by wip/gen/emit_case.py) ===== -/
theorem pA6 (a : Nat) : Int32.ofNat a + 6 = Int32.ofNat (a + 6) := (Int32.ofNat_add a 6).symm
theorem pSL_at {σ : aH} {a j : Nat} {x : Int64} : (aSL σ a j x).2 a j = x := by
  show (match Nat.beq a a with
    | true => vp_updL (σ.2 a) j x
    | false => σ.2 a) j = x
  rw [show Nat.beq a a = true from Nat.beq_refl a]
  show (if j = j then x else σ.2 a j) = x
  rw [if_pos rfl]
theorem cAll.sl {σ : aH} {m : St} {a j : Nat} {x : Int64} (q : cAll σ m) : cAll (aSL σ a j x) m := q.k K.rfl'.sl
theorem rAll.sl {σ : aH} {m : St} {a j : Nat} {x : Int64} (q : rAll σ m) : rAll (aSL σ a j x) m := q.k K.rfl'.sl
section PCase
variable {G : Nat × (Nat → Int32)} {i : Nat} {σ : aH} {m m' : St}
theorem s_thrown {d : Nat} : Rn G (d + 1) 93 [.ref 33] σ = oI (σ.1 33 0) σ := e_Md_thrown ..
theorem t_1 (hi : i + 6 ≤ G.1) (hG : G.1 ≤ 3072) (I : Iv σ m) (A : AskS G 5 60 [.int (G.2 (i + 1))] [(1, 1)] m m') : ∃ σ', LT (cdL_h ++ (cdL_1 ++ cdL_e)) G 188 1 (261, [some (.ref 130), some (.ref 0), some (.ref 33), some (.ref 63), some (.int (Int32.ofNat i)), none, none], [], σ) = some (.inl (lwSt (i + 6) σ')) ∧ Iv σ' m' := by
  have i1 : ∀ {ρ : Type} (f : Nat → Option ρ), aIx (Int32.ofNat i + 1) G.1 f = f (i + 1) := fun f => pIxL (Int32.ofNat_add i 1).symm (by omega) (by omega) f
  obtain ⟨ho', A⟩ := A
  rw [lw_1]
  simp only [i1]
  rcases A with ⟨v, h1, h2⟩ | ⟨q, hq, h1, h2⟩
  · obtain ⟨σ1, r1, c1, d1⟩ := h1 σ I.2.1 I.2.2
    obtain ⟨σ2, r2, c2, d2, t2, l2⟩ := h2 (aSL σ1 63 0 v.toInt64) c1.sl d1.sl
    have l3 : σ2.2 63 0 = v.toInt64 := (congrFun l2 0).trans pSL_at
    refine ⟨σ2, ?_, ho', c2, d2⟩
    rw [w_4_ok r1, pCI, r2, pCI, s_thrown, pCI, t2, if_pos rfl, if_pos rfl, l3, if_pos ((lg_cmp_eq _ _).mpr rfl), pA6]
    rfl
  · obtain ⟨σ1, r1, c1, d1⟩ := h1 σ I.2.1 I.2.2
    obtain ⟨v, σ2, r2, c2, d2, t2, l2⟩ := h2 σ1 c1 d1
    have e := List.mem_singleton.mp hq
    subst e
    · refine ⟨σ2, ?_, ho', c2, d2⟩
      rw [w_4_ex1 r1, pCI, r2, pCI, s_thrown, pCI, t2, if_pos rfl, if_neg (by decide), pA6]
      rfl
theorem t_2 (hi : i + 6 ≤ G.1) (hG : G.1 ≤ 3072) (I : Iv σ m) (A : AskS G 95 106 [.int (G.2 (i + 1))] [(1, 1)] m m') : ∃ σ', LT (cdL_h ++ (cdL_2 ++ cdL_e)) G 188 1 (317, [some (.ref 130), some (.ref 0), some (.ref 33), some (.ref 63), some (.int (Int32.ofNat i)), none, none], [], σ) = some (.inl (lwSt (i + 6) σ')) ∧ Iv σ' m' := by
  have i1 : ∀ {ρ : Type} (f : Nat → Option ρ), aIx (Int32.ofNat i + 1) G.1 f = f (i + 1) := fun f => pIxL (Int32.ofNat_add i 1).symm (by omega) (by omega) f
  obtain ⟨ho', A⟩ := A
  rw [lw_2]
  simp only [i1]
  rcases A with ⟨v, h1, h2⟩ | ⟨q, hq, h1, h2⟩
  · obtain ⟨σ1, r1, c1, d1⟩ := h1 σ I.2.1 I.2.2
    obtain ⟨σ2, r2, c2, d2, t2, l2⟩ := h2 (aSL σ1 63 0 v.toInt64) c1.sl d1.sl
    have l3 : σ2.2 63 0 = v.toInt64 := (congrFun l2 0).trans pSL_at
    refine ⟨σ2, ?_, ho', c2, d2⟩
    rw [w_94_ok r1, pCI, r2, pCI, s_thrown, pCI, t2, if_pos rfl, if_pos rfl, l3, if_pos ((lg_cmp_eq _ _).mpr rfl), pA6]
    rfl
  · obtain ⟨σ1, r1, c1, d1⟩ := h1 σ I.2.1 I.2.2
    obtain ⟨v, σ2, r2, c2, d2, t2, l2⟩ := h2 σ1 c1 d1
    have e := List.mem_singleton.mp hq
    subst e
    · refine ⟨σ2, ?_, ho', c2, d2⟩
      rw [w_94_ex1 r1, pCI, r2, pCI, s_thrown, pCI, t2, if_pos rfl, if_neg (by decide), pA6]
      rfl
theorem t_4 (hi : i + 6 ≤ G.1) (hG : G.1 ≤ 3072) (I : Iv σ m) (A : AskS G 113 129 [.int (G.2 (i + 1))] [(0, 1)] m m') : ∃ σ', LT (cdL_h ++ (cdL_4 ++ cdL_e)) G 188 1 (386, [some (.ref 130), some (.ref 0), some (.ref 33), some (.ref 63), some (.int (Int32.ofNat i)), none, none], [], σ) = some (.inl (lwSt (i + 6) σ')) ∧ Iv σ' m' := by
  have i1 : ∀ {ρ : Type} (f : Nat → Option ρ), aIx (Int32.ofNat i + 1) G.1 f = f (i + 1) := fun f => pIxL (Int32.ofNat_add i 1).symm (by omega) (by omega) f
  obtain ⟨ho', A⟩ := A
  rw [lw_4]
  simp only [i1]
  rcases A with ⟨v, h1, h2⟩ | ⟨q, hq, h1, h2⟩
  · obtain ⟨σ1, r1, c1, d1⟩ := h1 σ I.2.1 I.2.2
    obtain ⟨σ2, r2, c2, d2, t2, l2⟩ := h2 (aSL σ1 63 0 v.toInt64) c1.sl d1.sl
    have l3 : σ2.2 63 0 = v.toInt64 := (congrFun l2 0).trans pSL_at
    refine ⟨σ2, ?_, ho', c2, d2⟩
    rw [w_112_ok r1, pCI, r2, pCI, s_thrown, pCI, t2, if_pos rfl, if_pos rfl, l3, if_pos ((lg_cmp_eq _ _).mpr rfl), pA6]
    rfl
  · obtain ⟨σ1, r1, c1, d1⟩ := h1 σ I.2.1 I.2.2
    obtain ⟨v, σ2, r2, c2, d2, t2, l2⟩ := h2 σ1 c1 d1
    have e := List.mem_singleton.mp hq
    subst e
    · refine ⟨σ2, ?_, ho', c2, d2⟩
      rw [w_112_ex0 r1, pCI, r2, pCI, s_thrown, pCI, t2, if_pos rfl, if_neg (by decide), pA6]
      rfl
theorem t_5 (hi : i + 6 ≤ G.1) (hG : G.1 ≤ 3072) (I : Iv σ m) (A : AskS G 139 140 [.int (G.2 (i + 1)), .int (G.2 (i + 2))] [(0, 1)] m m') : ∃ σ', LT (cdL_h ++ (cdL_5 ++ cdL_e)) G 188 1 (442, [some (.ref 130), some (.ref 0), some (.ref 33), some (.ref 63), some (.int (Int32.ofNat i)), none, none], [], σ) = some (.inl (lwSt (i + 6) σ')) ∧ Iv σ' m' := by
  have i1 : ∀ {ρ : Type} (f : Nat → Option ρ), aIx (Int32.ofNat i + 1) G.1 f = f (i + 1) := fun f => pIxL (Int32.ofNat_add i 1).symm (by omega) (by omega) f
  have i2 : ∀ {ρ : Type} (f : Nat → Option ρ), aIx (Int32.ofNat i + 2) G.1 f = f (i + 2) := fun f => pIxL (Int32.ofNat_add i 2).symm (by omega) (by omega) f
  obtain ⟨ho', A⟩ := A
  rw [lw_5]
  simp only [i1, i2]
  rcases A with ⟨v, h1, h2⟩ | ⟨q, hq, h1, h2⟩
  · obtain ⟨σ1, r1, c1, d1⟩ := h1 σ I.2.1 I.2.2
    obtain ⟨σ2, r2, c2, d2, t2, l2⟩ := h2 (aSL σ1 63 0 v.toInt64) c1.sl d1.sl
    have l3 : σ2.2 63 0 = v.toInt64 := (congrFun l2 0).trans pSL_at
    refine ⟨σ2, ?_, ho', c2, d2⟩
    rw [w_138_ok r1, pCI, r2, pCI, s_thrown, pCI, t2, if_pos rfl, if_pos rfl, l3, if_pos ((lg_cmp_eq _ _).mpr rfl), pA6]
    rfl
  · obtain ⟨σ1, r1, c1, d1⟩ := h1 σ I.2.1 I.2.2
    obtain ⟨v, σ2, r2, c2, d2, t2, l2⟩ := h2 σ1 c1 d1
    have e := List.mem_singleton.mp hq
    subst e
    · refine ⟨σ2, ?_, ho', c2, d2⟩
      rw [w_138_ex0 r1, pCI, r2, pCI, s_thrown, pCI, t2, if_pos rfl, if_neg (by decide), pA6]
      rfl
theorem t_6 (hi : i + 6 ≤ G.1) (hG : G.1 ≤ 3072) (I : Iv σ m) (A : AskS G 142 143 [.int (G.2 (i + 1)), .int (G.2 (i + 2))] [(0, 1)] m m') : ∃ σ', LT (cdL_h ++ (cdL_6 ++ cdL_e)) G 188 1 (510, [some (.ref 130), some (.ref 0), some (.ref 33), some (.ref 63), some (.int (Int32.ofNat i)), none, none], [], σ) = some (.inl (lwSt (i + 6) σ')) ∧ Iv σ' m' := by
  have i1 : ∀ {ρ : Type} (f : Nat → Option ρ), aIx (Int32.ofNat i + 1) G.1 f = f (i + 1) := fun f => pIxL (Int32.ofNat_add i 1).symm (by omega) (by omega) f
  have i2 : ∀ {ρ : Type} (f : Nat → Option ρ), aIx (Int32.ofNat i + 2) G.1 f = f (i + 2) := fun f => pIxL (Int32.ofNat_add i 2).symm (by omega) (by omega) f
  obtain ⟨ho', A⟩ := A
  rw [lw_6]
  simp only [i1, i2]
  rcases A with ⟨v, h1, h2⟩ | ⟨q, hq, h1, h2⟩
  · obtain ⟨σ1, r1, c1, d1⟩ := h1 σ I.2.1 I.2.2
    obtain ⟨σ2, r2, c2, d2, t2, l2⟩ := h2 (aSL σ1 63 0 v.toInt64) c1.sl d1.sl
    have l3 : σ2.2 63 0 = v.toInt64 := (congrFun l2 0).trans pSL_at
    refine ⟨σ2, ?_, ho', c2, d2⟩
    rw [w_141_ok r1, pCI, r2, pCI, s_thrown, pCI, t2, if_pos rfl, if_pos rfl, l3, if_pos ((lg_cmp_eq _ _).mpr rfl), pA6]
    rfl
  · obtain ⟨σ1, r1, c1, d1⟩ := h1 σ I.2.1 I.2.2
    obtain ⟨v, σ2, r2, c2, d2, t2, l2⟩ := h2 σ1 c1 d1
    have e := List.mem_singleton.mp hq
    subst e
    · refine ⟨σ2, ?_, ho', c2, d2⟩
      rw [w_141_ex0 r1, pCI, r2, pCI, s_thrown, pCI, t2, if_pos rfl, if_neg (by decide), pA6]
      rfl
theorem t_7 (hi : i + 6 ≤ G.1) (hG : G.1 ≤ 3072) (I : Iv σ m) (A : AskS G 145 146 [.int (G.2 (i + 1)), .int (G.2 (i + 2))] [(0, 1)] m m') : ∃ σ', LT (cdL_h ++ (cdL_7 ++ cdL_e)) G 188 1 (578, [some (.ref 130), some (.ref 0), some (.ref 33), some (.ref 63), some (.int (Int32.ofNat i)), none, none], [], σ) = some (.inl (lwSt (i + 6) σ')) ∧ Iv σ' m' := by
  have i1 : ∀ {ρ : Type} (f : Nat → Option ρ), aIx (Int32.ofNat i + 1) G.1 f = f (i + 1) := fun f => pIxL (Int32.ofNat_add i 1).symm (by omega) (by omega) f
  have i2 : ∀ {ρ : Type} (f : Nat → Option ρ), aIx (Int32.ofNat i + 2) G.1 f = f (i + 2) := fun f => pIxL (Int32.ofNat_add i 2).symm (by omega) (by omega) f
  obtain ⟨ho', A⟩ := A
  rw [lw_7]
  simp only [i1, i2]
  rcases A with ⟨v, h1, h2⟩ | ⟨q, hq, h1, h2⟩
  · obtain ⟨σ1, r1, c1, d1⟩ := h1 σ I.2.1 I.2.2
    obtain ⟨σ2, r2, c2, d2, t2, l2⟩ := h2 (aSL σ1 63 0 v.toInt64) c1.sl d1.sl
    have l3 : σ2.2 63 0 = v.toInt64 := (congrFun l2 0).trans pSL_at
    refine ⟨σ2, ?_, ho', c2, d2⟩
    rw [w_144_ok r1, pCI, r2, pCI, s_thrown, pCI, t2, if_pos rfl, if_pos rfl, l3, if_pos ((lg_cmp_eq _ _).mpr rfl), pA6]
    rfl
  · obtain ⟨σ1, r1, c1, d1⟩ := h1 σ I.2.1 I.2.2
    obtain ⟨v, σ2, r2, c2, d2, t2, l2⟩ := h2 σ1 c1 d1
    have e := List.mem_singleton.mp hq
    subst e
    · refine ⟨σ2, ?_, ho', c2, d2⟩
      rw [w_144_ex0 r1, pCI, r2, pCI, s_thrown, pCI, t2, if_pos rfl, if_neg (by decide), pA6]
      rfl
theorem t_8 (hi : i + 6 ≤ G.1) (hG : G.1 ≤ 3072) (I : Iv σ m) (hb : ∀ v σ', Rn G 60 148 [.ref 0, .int (G.2 (i + 1))] σ = oI v σ' → v = 0 ∨ v = 1) (A : AskS G 148 149 [.int (G.2 (i + 1))] [(0, 1)] m m') : ∃ σ', LT (cdL_h ++ (cdL_8 ++ cdL_e)) G 188 1 (646, [some (.ref 130), some (.ref 0), some (.ref 33), some (.ref 63), some (.int (Int32.ofNat i)), none, none], [], σ) = some (.inl (lwSt (i + 6) σ')) ∧ Iv σ' m' := by
  have i1 : ∀ {ρ : Type} (f : Nat → Option ρ), aIx (Int32.ofNat i + 1) G.1 f = f (i + 1) := fun f => pIxL (Int32.ofNat_add i 1).symm (by omega) (by omega) f
  obtain ⟨ho', A⟩ := A
  rw [lw_8]
  simp only [i1]
  rcases A with ⟨v, h1, h2⟩ | ⟨q, hq, h1, h2⟩
  · obtain ⟨σ1, r1, c1, d1⟩ := h1 σ I.2.1 I.2.2
    rw [w_147_ok r1]
    rcases hb v σ1 r1 with rfl | rfl
    · obtain ⟨σ2, r2, c2, d2, t2, l2⟩ := h2 (aSL σ1 63 0 0) c1.sl d1.sl
      have l3 : σ2.2 63 0 = 0 := (congrFun l2 0).trans pSL_at
      refine ⟨σ2, ?_, ho', c2, d2⟩
      rw [if_pos rfl, pCI, r2, pCI, s_thrown, pCI, t2, if_pos rfl, if_pos rfl, if_pos rfl, l3, if_pos ((lg_cmp_eq _ _).mpr rfl), pA6]
      rfl
    · obtain ⟨σ2, r2, c2, d2, t2, l2⟩ := h2 (aSL σ1 63 0 1) c1.sl d1.sl
      have l3 : σ2.2 63 0 = 1 := (congrFun l2 0).trans pSL_at
      refine ⟨σ2, ?_, ho', c2, d2⟩
      rw [if_neg (by decide), pCI, r2, pCI, s_thrown, pCI, t2, if_pos rfl, if_pos rfl, if_neg (by decide), l3, if_pos ((lg_cmp_eq _ _).mpr rfl), pA6]
      rfl
  · obtain ⟨σ1, r1, c1, d1⟩ := h1 σ I.2.1 I.2.2
    obtain ⟨v, σ2, r2, c2, d2, t2, l2⟩ := h2 σ1 c1 d1
    have e := List.mem_singleton.mp hq
    subst e
    · refine ⟨σ2, ?_, ho', c2, d2⟩
      rw [w_147_ex0 r1, pCI, r2, pCI, s_thrown, pCI, t2, if_pos rfl, if_neg (by decide), pA6]
      rfl
theorem t_9 (hi : i + 6 ≤ G.1) (hG : G.1 ≤ 3072) (I : Iv σ m) (A : AskS G 151 153 [.int (G.2 (i + 1)), .int (G.2 (i + 2))] [(1, 1)] m m') : ∃ σ', LT (cdL_h ++ (cdL_9 ++ cdL_e)) G 188 1 (709, [some (.ref 130), some (.ref 0), some (.ref 33), some (.ref 63), some (.int (Int32.ofNat i)), none, none], [], σ) = some (.inl (lwSt (i + 6) σ')) ∧ Iv σ' m' := by
  have i1 : ∀ {ρ : Type} (f : Nat → Option ρ), aIx (Int32.ofNat i + 1) G.1 f = f (i + 1) := fun f => pIxL (Int32.ofNat_add i 1).symm (by omega) (by omega) f
  have i2 : ∀ {ρ : Type} (f : Nat → Option ρ), aIx (Int32.ofNat i + 2) G.1 f = f (i + 2) := fun f => pIxL (Int32.ofNat_add i 2).symm (by omega) (by omega) f
  obtain ⟨ho', A⟩ := A
  rw [lw_9]
  simp only [i1, i2]
  rcases A with ⟨v, h1, h2⟩ | ⟨q, hq, h1, h2⟩
  · obtain ⟨σ1, r1, c1, d1⟩ := h1 σ I.2.1 I.2.2
    obtain ⟨σ2, r2, c2, d2, t2, l2⟩ := h2 (aSL σ1 63 0 v.toInt64) c1.sl d1.sl
    have l3 : σ2.2 63 0 = v.toInt64 := (congrFun l2 0).trans pSL_at
    refine ⟨σ2, ?_, ho', c2, d2⟩
    rw [w_150_ok r1, pCI, r2, pCI, s_thrown, pCI, t2, if_pos rfl, if_pos rfl, l3, if_pos ((lg_cmp_eq _ _).mpr rfl), pA6]
    rfl
  · obtain ⟨σ1, r1, c1, d1⟩ := h1 σ I.2.1 I.2.2
    obtain ⟨v, σ2, r2, c2, d2, t2, l2⟩ := h2 σ1 c1 d1
    have e := List.mem_singleton.mp hq
    subst e
    · refine ⟨σ2, ?_, ho', c2, d2⟩
      rw [w_150_ex1 r1, pCI, r2, pCI, s_thrown, pCI, t2, if_pos rfl, if_neg (by decide), pA6]
      rfl
theorem t_10 (hi : i + 6 ≤ G.1) (hG : G.1 ≤ 3072) (I : Iv σ m) (A : AskS G 156 166 [.int (G.2 (i + 1)), .int (G.2 (i + 2)), .int (G.2 (i + 3)), .int (G.2 (i + 4))] [(0, 1), (1, 2)] m m') : ∃ σ', LT (cdL_h ++ (cdL_10 ++ cdL_e)) G 188 1 (777, [some (.ref 130), some (.ref 0), some (.ref 33), some (.ref 63), some (.int (Int32.ofNat i)), none, none], [], σ) = some (.inl (lwSt (i + 6) σ')) ∧ Iv σ' m' := by
  have i1 : ∀ {ρ : Type} (f : Nat → Option ρ), aIx (Int32.ofNat i + 1) G.1 f = f (i + 1) := fun f => pIxL (Int32.ofNat_add i 1).symm (by omega) (by omega) f
  have i2 : ∀ {ρ : Type} (f : Nat → Option ρ), aIx (Int32.ofNat i + 2) G.1 f = f (i + 2) := fun f => pIxL (Int32.ofNat_add i 2).symm (by omega) (by omega) f
  have i3 : ∀ {ρ : Type} (f : Nat → Option ρ), aIx (Int32.ofNat i + 3) G.1 f = f (i + 3) := fun f => pIxL (Int32.ofNat_add i 3).symm (by omega) (by omega) f
  have i4 : ∀ {ρ : Type} (f : Nat → Option ρ), aIx (Int32.ofNat i + 4) G.1 f = f (i + 4) := fun f => pIxL (Int32.ofNat_add i 4).symm (by omega) (by omega) f
  obtain ⟨ho', A⟩ := A
  rw [lw_10]
  simp only [i1, i2, i3, i4]
  rcases A with ⟨v, h1, h2⟩ | ⟨q, hq, h1, h2⟩
  · obtain ⟨σ1, r1, c1, d1⟩ := h1 σ I.2.1 I.2.2
    obtain ⟨σ2, r2, c2, d2, t2, l2⟩ := h2 (aSL σ1 63 0 v.toInt64) c1.sl d1.sl
    have l3 : σ2.2 63 0 = v.toInt64 := (congrFun l2 0).trans pSL_at
    refine ⟨σ2, ?_, ho', c2, d2⟩
    rw [w_155_ok r1, pCI, r2, pCI, s_thrown, pCI, t2, if_pos rfl, if_pos rfl, l3, if_pos ((lg_cmp_eq _ _).mpr rfl), pA6]
    rfl
  · obtain ⟨σ1, r1, c1, d1⟩ := h1 σ I.2.1 I.2.2
    obtain ⟨v, σ2, r2, c2, d2, t2, l2⟩ := h2 σ1 c1 d1
    rcases List.mem_cons.mp hq with e | e
    · subst e
      refine ⟨σ2, ?_, ho', c2, d2⟩
      rw [w_155_ex0 r1, pCI, r2, pCI, s_thrown, pCI, t2, if_pos rfl, if_neg (by decide), pA6]
      rfl
    · have e := List.mem_singleton.mp e
      subst e
      refine ⟨σ2, ?_, ho', c2, d2⟩
      rw [w_155_ex1 r1, pCI, r2, pCI, s_thrown, pCI, t2, if_pos rfl, if_neg (by decide), pA6]
      rfl
theorem t_11 (hi : i + 6 ≤ G.1) (hG : G.1 ≤ 3072) (I : Iv σ m) (A : AskS G 174 178 [.int (G.2 (i + 1)), .int (G.2 (i + 2)), .int (G.2 (i + 3)), .int (G.2 (i + 4))] [(0, 1)] m m') : ∃ σ', LT (cdL_h ++ (cdL_11 ++ cdL_e)) G 188 1 (869, [some (.ref 130), some (.ref 0), some (.ref 33), some (.ref 63), some (.int (Int32.ofNat i)), none, none], [], σ) = some (.inl (lwSt (i + 6) σ')) ∧ Iv σ' m' := by
  have i1 : ∀ {ρ : Type} (f : Nat → Option ρ), aIx (Int32.ofNat i + 1) G.1 f = f (i + 1) := fun f => pIxL (Int32.ofNat_add i 1).symm (by omega) (by omega) f
  have i2 : ∀ {ρ : Type} (f : Nat → Option ρ), aIx (Int32.ofNat i + 2) G.1 f = f (i + 2) := fun f => pIxL (Int32.ofNat_add i 2).symm (by omega) (by omega) f
  have i3 : ∀ {ρ : Type} (f : Nat → Option ρ), aIx (Int32.ofNat i + 3) G.1 f = f (i + 3) := fun f => pIxL (Int32.ofNat_add i 3).symm (by omega) (by omega) f
  have i4 : ∀ {ρ : Type} (f : Nat → Option ρ), aIx (Int32.ofNat i + 4) G.1 f = f (i + 4) := fun f => pIxL (Int32.ofNat_add i 4).symm (by omega) (by omega) f
  obtain ⟨ho', A⟩ := A
  rw [lw_11]
  simp only [i1, i2, i3, i4]
  rcases A with ⟨v, h1, h2⟩ | ⟨q, hq, h1, h2⟩
  · obtain ⟨σ1, r1, c1, d1⟩ := h1 σ I.2.1 I.2.2
    obtain ⟨σ2, r2, c2, d2, t2, l2⟩ := h2 (aSL σ1 63 0 v.toInt64) c1.sl d1.sl
    have l3 : σ2.2 63 0 = v.toInt64 := (congrFun l2 0).trans pSL_at
    refine ⟨σ2, ?_, ho', c2, d2⟩
    rw [w_173_ok r1, pCI, r2, pCI, s_thrown, pCI, t2, if_pos rfl, if_pos rfl, l3, if_pos ((lg_cmp_eq _ _).mpr rfl), pA6]
    rfl
  · obtain ⟨σ1, r1, c1, d1⟩ := h1 σ I.2.1 I.2.2
    obtain ⟨v, σ2, r2, c2, d2, t2, l2⟩ := h2 σ1 c1 d1
    have e := List.mem_singleton.mp hq
    subst e
    · refine ⟨σ2, ?_, ho', c2, d2⟩
      rw [w_173_ex0 r1, pCI, r2, pCI, s_thrown, pCI, t2, if_pos rfl, if_neg (by decide), pA6]
      rfl
theorem t_12 (hi : i + 6 ≤ G.1) (hG : G.1 ≤ 3072) (I : Iv σ m) (A : AskS G 183 188 [.int (G.2 (i + 1)), .int (G.2 (i + 2)), .int (G.2 (i + 3)), .int (G.2 (i + 4))] [(0, 1)] m m') : ∃ σ', LT (cdL_h ++ (cdL_12 ++ cdL_e)) G 188 1 (961, [some (.ref 130), some (.ref 0), some (.ref 33), some (.ref 63), some (.int (Int32.ofNat i)), none, none], [], σ) = some (.inl (lwSt (i + 6) σ')) ∧ Iv σ' m' := by
  have i1 : ∀ {ρ : Type} (f : Nat → Option ρ), aIx (Int32.ofNat i + 1) G.1 f = f (i + 1) := fun f => pIxL (Int32.ofNat_add i 1).symm (by omega) (by omega) f
  have i2 : ∀ {ρ : Type} (f : Nat → Option ρ), aIx (Int32.ofNat i + 2) G.1 f = f (i + 2) := fun f => pIxL (Int32.ofNat_add i 2).symm (by omega) (by omega) f
  have i3 : ∀ {ρ : Type} (f : Nat → Option ρ), aIx (Int32.ofNat i + 3) G.1 f = f (i + 3) := fun f => pIxL (Int32.ofNat_add i 3).symm (by omega) (by omega) f
  have i4 : ∀ {ρ : Type} (f : Nat → Option ρ), aIx (Int32.ofNat i + 4) G.1 f = f (i + 4) := fun f => pIxL (Int32.ofNat_add i 4).symm (by omega) (by omega) f
  obtain ⟨ho', A⟩ := A
  rw [lw_12]
  simp only [i1, i2, i3, i4]
  rcases A with ⟨v, h1, h2⟩ | ⟨q, hq, h1, h2⟩
  · obtain ⟨σ1, r1, c1, d1⟩ := h1 σ I.2.1 I.2.2
    obtain ⟨σ2, r2, c2, d2, t2, l2⟩ := h2 (aSL σ1 63 0 v.toInt64) c1.sl d1.sl
    have l3 : σ2.2 63 0 = v.toInt64 := (congrFun l2 0).trans pSL_at
    refine ⟨σ2, ?_, ho', c2, d2⟩
    rw [w_182_ok r1, pCI, r2, pCI, s_thrown, pCI, t2, if_pos rfl, if_pos rfl, l3, if_pos ((lg_cmp_eq _ _).mpr rfl), pA6]
    rfl
  · obtain ⟨σ1, r1, c1, d1⟩ := h1 σ I.2.1 I.2.2
    obtain ⟨v, σ2, r2, c2, d2, t2, l2⟩ := h2 σ1 c1 d1
    have e := List.mem_singleton.mp hq
    subst e
    · refine ⟨σ2, ?_, ho', c2, d2⟩
      rw [w_182_ex0 r1, pCI, r2, pCI, s_thrown, pCI, t2, if_pos rfl, if_neg (by decide), pA6]
      rfl
theorem t_13 (hi : i + 6 ≤ G.1) (hG : G.1 ≤ 3072) (I : Iv σ m) (A : AskS G 193 194 [.int (G.2 (i + 1)), .int (G.2 (i + 2))] [(0, 1)] m m') : ∃ σ', LT (cdL_h ++ (cdL_13 ++ cdL_e)) G 188 1 (1053, [some (.ref 130), some (.ref 0), some (.ref 33), some (.ref 63), some (.int (Int32.ofNat i)), none, none], [], σ) = some (.inl (lwSt (i + 6) σ')) ∧ Iv σ' m' := by
  have i1 : ∀ {ρ : Type} (f : Nat → Option ρ), aIx (Int32.ofNat i + 1) G.1 f = f (i + 1) := fun f => pIxL (Int32.ofNat_add i 1).symm (by omega) (by omega) f
  have i2 : ∀ {ρ : Type} (f : Nat → Option ρ), aIx (Int32.ofNat i + 2) G.1 f = f (i + 2) := fun f => pIxL (Int32.ofNat_add i 2).symm (by omega) (by omega) f
  obtain ⟨ho', A⟩ := A
  rw [lw_13]
  simp only [i1, i2]
  rcases A with ⟨v, h1, h2⟩ | ⟨q, hq, h1, h2⟩
  · obtain ⟨σ1, r1, c1, d1⟩ := h1 σ I.2.1 I.2.2
    obtain ⟨σ2, r2, c2, d2, t2, l2⟩ := h2 (aSL σ1 63 0 v.toInt64) c1.sl d1.sl
    have l3 : σ2.2 63 0 = v.toInt64 := (congrFun l2 0).trans pSL_at
    refine ⟨σ2, ?_, ho', c2, d2⟩
    rw [w_192_ok r1, pCI, r2, pCI, s_thrown, pCI, t2, if_pos rfl, if_pos rfl, l3, if_pos ((lg_cmp_eq _ _).mpr rfl), pA6]
    rfl
  · obtain ⟨σ1, r1, c1, d1⟩ := h1 σ I.2.1 I.2.2
    obtain ⟨v, σ2, r2, c2, d2, t2, l2⟩ := h2 σ1 c1 d1
    have e := List.mem_singleton.mp hq
    subst e
    · refine ⟨σ2, ?_, ho', c2, d2⟩
      rw [w_192_ex0 r1, pCI, r2, pCI, s_thrown, pCI, t2, if_pos rfl, if_neg (by decide), pA6]
      rfl
theorem t_14 (hi : i + 6 ≤ G.1) (hG : G.1 ≤ 3072) (I : Iv σ m) (hb : ∀ v σ', Rn G 60 197 [.ref 0, .int (G.2 (i + 1)), .int (G.2 (i + 2)), .int (G.2 (i + 3))] σ = oI v σ' → v = 0 ∨ v = 1) (A : AskS G 197 200 [.int (G.2 (i + 1)), .int (G.2 (i + 2)), .int (G.2 (i + 3))] [(0, 1)] m m') : ∃ σ', LT (cdL_h ++ (cdL_14 ++ cdL_e)) G 188 1 (1121, [some (.ref 130), some (.ref 0), some (.ref 33), some (.ref 63), some (.int (Int32.ofNat i)), none, none], [], σ) = some (.inl (lwSt (i + 6) σ')) ∧ Iv σ' m' := by
  have i1 : ∀ {ρ : Type} (f : Nat → Option ρ), aIx (Int32.ofNat i + 1) G.1 f = f (i + 1) := fun f => pIxL (Int32.ofNat_add i 1).symm (by omega) (by omega) f
  have i2 : ∀ {ρ : Type} (f : Nat → Option ρ), aIx (Int32.ofNat i + 2) G.1 f = f (i + 2) := fun f => pIxL (Int32.ofNat_add i 2).symm (by omega) (by omega) f
  have i3 : ∀ {ρ : Type} (f : Nat → Option ρ), aIx (Int32.ofNat i + 3) G.1 f = f (i + 3) := fun f => pIxL (Int32.ofNat_add i 3).symm (by omega) (by omega) f
  obtain ⟨ho', A⟩ := A
  rw [lw_14]
  simp only [i1, i2, i3]
  rcases A with ⟨v, h1, h2⟩ | ⟨q, hq, h1, h2⟩
  · obtain ⟨σ1, r1, c1, d1⟩ := h1 σ I.2.1 I.2.2
    rw [w_196_ok r1]
    rcases hb v σ1 r1 with rfl | rfl
    · obtain ⟨σ2, r2, c2, d2, t2, l2⟩ := h2 (aSL σ1 63 0 0) c1.sl d1.sl
      have l3 : σ2.2 63 0 = 0 := (congrFun l2 0).trans pSL_at
      refine ⟨σ2, ?_, ho', c2, d2⟩
      rw [if_pos rfl, pCI, r2, pCI, s_thrown, pCI, t2, if_pos rfl, if_pos rfl, if_pos rfl, l3, if_pos ((lg_cmp_eq _ _).mpr rfl), pA6]
      rfl
    · obtain ⟨σ2, r2, c2, d2, t2, l2⟩ := h2 (aSL σ1 63 0 1) c1.sl d1.sl
      have l3 : σ2.2 63 0 = 1 := (congrFun l2 0).trans pSL_at
      refine ⟨σ2, ?_, ho', c2, d2⟩
      rw [if_neg (by decide), pCI, r2, pCI, s_thrown, pCI, t2, if_pos rfl, if_pos rfl, if_neg (by decide), l3, if_pos ((lg_cmp_eq _ _).mpr rfl), pA6]
      rfl
  · obtain ⟨σ1, r1, c1, d1⟩ := h1 σ I.2.1 I.2.2
    obtain ⟨v, σ2, r2, c2, d2, t2, l2⟩ := h2 σ1 c1 d1
    have e := List.mem_singleton.mp hq
    subst e
    · refine ⟨σ2, ?_, ho', c2, d2⟩
      rw [w_196_ex0 r1, pCI, r2, pCI, s_thrown, pCI, t2, if_pos rfl, if_neg (by decide), pA6]
      rfl
theorem t_15 (hi : i + 6 ≤ G.1) (hG : G.1 ≤ 3072) (I : Iv σ m) (A : AskS G 207 209 [.int (G.2 (i + 1)), .int (G.2 (i + 2))] [(0, 1)] m m') : ∃ σ', LT (cdL_h ++ (cdL_15 ++ cdL_e)) G 188 1 (1208, [some (.ref 130), some (.ref 0), some (.ref 33), some (.ref 63), some (.int (Int32.ofNat i)), none, none], [], σ) = some (.inl (lwSt (i + 6) σ')) ∧ Iv σ' m' := by
  have i1 : ∀ {ρ : Type} (f : Nat → Option ρ), aIx (Int32.ofNat i + 1) G.1 f = f (i + 1) := fun f => pIxL (Int32.ofNat_add i 1).symm (by omega) (by omega) f
  have i2 : ∀ {ρ : Type} (f : Nat → Option ρ), aIx (Int32.ofNat i + 2) G.1 f = f (i + 2) := fun f => pIxL (Int32.ofNat_add i 2).symm (by omega) (by omega) f
  obtain ⟨ho', A⟩ := A
  rw [lw_15]
  simp only [i1, i2]
  rcases A with ⟨v, h1, h2⟩ | ⟨q, hq, h1, h2⟩
  · obtain ⟨σ1, r1, c1, d1⟩ := h1 σ I.2.1 I.2.2
    obtain ⟨σ2, r2, c2, d2, t2, l2⟩ := h2 (aSL σ1 63 0 v.toInt64) c1.sl d1.sl
    have l3 : σ2.2 63 0 = v.toInt64 := (congrFun l2 0).trans pSL_at
    refine ⟨σ2, ?_, ho', c2, d2⟩
    rw [w_206_ok r1, pCI, r2, pCI, s_thrown, pCI, t2, if_pos rfl, if_pos rfl, l3, if_pos ((lg_cmp_eq _ _).mpr rfl), pA6]
    rfl
  · obtain ⟨σ1, r1, c1, d1⟩ := h1 σ I.2.1 I.2.2
    obtain ⟨v, σ2, r2, c2, d2, t2, l2⟩ := h2 σ1 c1 d1
    have e := List.mem_singleton.mp hq
    subst e
    · refine ⟨σ2, ?_, ho', c2, d2⟩
      rw [w_206_ex0 r1, pCI, r2, pCI, s_thrown, pCI, t2, if_pos rfl, if_neg (by decide), pA6]
      rfl
theorem t_16 (hi : i + 6 ≤ G.1) (hG : G.1 ≤ 3072) (I : Iv σ m) (A : AskS G 211 215 [.int (G.2 (i + 1)), .int (G.2 (i + 2))] [(0, 1)] m m') : ∃ σ', LT (cdL_h ++ (cdL_16 ++ cdL_e)) G 188 1 (1276, [some (.ref 130), some (.ref 0), some (.ref 33), some (.ref 63), some (.int (Int32.ofNat i)), none, none], [], σ) = some (.inl (lwSt (i + 6) σ')) ∧ Iv σ' m' := by
  have i1 : ∀ {ρ : Type} (f : Nat → Option ρ), aIx (Int32.ofNat i + 1) G.1 f = f (i + 1) := fun f => pIxL (Int32.ofNat_add i 1).symm (by omega) (by omega) f
  have i2 : ∀ {ρ : Type} (f : Nat → Option ρ), aIx (Int32.ofNat i + 2) G.1 f = f (i + 2) := fun f => pIxL (Int32.ofNat_add i 2).symm (by omega) (by omega) f
  obtain ⟨ho', A⟩ := A
  rw [lw_16]
  simp only [i1, i2]
  rcases A with ⟨v, h1, h2⟩ | ⟨q, hq, h1, h2⟩
  · obtain ⟨σ1, r1, c1, d1⟩ := h1 σ I.2.1 I.2.2
    obtain ⟨σ2, r2, c2, d2, t2, l2⟩ := h2 (aSL σ1 63 0 v.toInt64) c1.sl d1.sl
    have l3 : σ2.2 63 0 = v.toInt64 := (congrFun l2 0).trans pSL_at
    refine ⟨σ2, ?_, ho', c2, d2⟩
    rw [w_210_ok r1, pCI, r2, pCI, s_thrown, pCI, t2, if_pos rfl, if_pos rfl, l3, if_pos ((lg_cmp_eq _ _).mpr rfl), pA6]
    rfl
  · obtain ⟨σ1, r1, c1, d1⟩ := h1 σ I.2.1 I.2.2
    obtain ⟨v, σ2, r2, c2, d2, t2, l2⟩ := h2 σ1 c1 d1
    have e := List.mem_singleton.mp hq
    subst e
    · refine ⟨σ2, ?_, ho', c2, d2⟩
      rw [w_210_ex0 r1, pCI, r2, pCI, s_thrown, pCI, t2, if_pos rfl, if_neg (by decide), pA6]
      rfl
theorem t_17 (hi : i + 6 ≤ G.1) (hG : G.1 ≤ 3072) (I : Iv σ m) (A : AskS G 219 225 [.int (G.2 (i + 1))] [(0, 1)] m m') : ∃ σ', LT (cdL_h ++ (cdL_17 ++ cdL_e)) G 188 1 (1344, [some (.ref 130), some (.ref 0), some (.ref 33), some (.ref 63), some (.int (Int32.ofNat i)), none, none], [], σ) = some (.inl (lwSt (i + 6) σ')) ∧ Iv σ' m' := by
  have i1 : ∀ {ρ : Type} (f : Nat → Option ρ), aIx (Int32.ofNat i + 1) G.1 f = f (i + 1) := fun f => pIxL (Int32.ofNat_add i 1).symm (by omega) (by omega) f
  obtain ⟨ho', A⟩ := A
  rw [lw_17]
  simp only [i1]
  rcases A with ⟨v, h1, h2⟩ | ⟨q, hq, h1, h2⟩
  · obtain ⟨σ1, r1, c1, d1⟩ := h1 σ I.2.1 I.2.2
    obtain ⟨σ2, r2, c2, d2, t2, l2⟩ := h2 (aSL σ1 63 0 v.toInt64) c1.sl d1.sl
    have l3 : σ2.2 63 0 = v.toInt64 := (congrFun l2 0).trans pSL_at
    refine ⟨σ2, ?_, ho', c2, d2⟩
    rw [w_218_ok r1, pCI, r2, pCI, s_thrown, pCI, t2, if_pos rfl, if_pos rfl, l3, if_pos ((lg_cmp_eq _ _).mpr rfl), pA6]
    rfl
  · obtain ⟨σ1, r1, c1, d1⟩ := h1 σ I.2.1 I.2.2
    obtain ⟨v, σ2, r2, c2, d2, t2, l2⟩ := h2 σ1 c1 d1
    have e := List.mem_singleton.mp hq
    subst e
    · refine ⟨σ2, ?_, ho', c2, d2⟩
      rw [w_218_ex0 r1, pCI, r2, pCI, s_thrown, pCI, t2, if_pos rfl, if_neg (by decide), pA6]
      rfl
theorem t_18 (hi : i + 6 ≤ G.1) (hG : G.1 ≤ 3072) (I : Iv σ m) (A : AskS G 231 238 [.int (G.2 (i + 1)), .int (G.2 (i + 2))] [(0, 1)] m m') : ∃ σ', LT (cdL_h ++ (cdL_18 ++ cdL_e)) G 188 1 (1400, [some (.ref 130), some (.ref 0), some (.ref 33), some (.ref 63), some (.int (Int32.ofNat i)), none, none], [], σ) = some (.inl (lwSt (i + 6) σ')) ∧ Iv σ' m' := by
  have i1 : ∀ {ρ : Type} (f : Nat → Option ρ), aIx (Int32.ofNat i + 1) G.1 f = f (i + 1) := fun f => pIxL (Int32.ofNat_add i 1).symm (by omega) (by omega) f
  have i2 : ∀ {ρ : Type} (f : Nat → Option ρ), aIx (Int32.ofNat i + 2) G.1 f = f (i + 2) := fun f => pIxL (Int32.ofNat_add i 2).symm (by omega) (by omega) f
  obtain ⟨ho', A⟩ := A
  rw [lw_18]
  simp only [i1, i2]
  rcases A with ⟨v, h1, h2⟩ | ⟨q, hq, h1, h2⟩
  · obtain ⟨σ1, r1, c1, d1⟩ := h1 σ I.2.1 I.2.2
    obtain ⟨σ2, r2, c2, d2, t2, l2⟩ := h2 (aSL σ1 63 0 v.toInt64) c1.sl d1.sl
    have l3 : σ2.2 63 0 = v.toInt64 := (congrFun l2 0).trans pSL_at
    refine ⟨σ2, ?_, ho', c2, d2⟩
    rw [w_230_ok r1, pCI, r2, pCI, s_thrown, pCI, t2, if_pos rfl, if_pos rfl, l3, if_pos ((lg_cmp_eq _ _).mpr rfl), pA6]
    rfl
  · obtain ⟨σ1, r1, c1, d1⟩ := h1 σ I.2.1 I.2.2
    obtain ⟨v, σ2, r2, c2, d2, t2, l2⟩ := h2 σ1 c1 d1
    have e := List.mem_singleton.mp hq
    subst e
    · refine ⟨σ2, ?_, ho', c2, d2⟩
      rw [w_230_ex0 r1, pCI, r2, pCI, s_thrown, pCI, t2, if_pos rfl, if_neg (by decide), pA6]
      rfl
theorem t_19 (hi : i + 6 ≤ G.1) (hG : G.1 ≤ 3072) (I : Iv σ m) (A : AskS G 244 246 [.int (G.2 (i + 1))] [(0, 1)] m m') : ∃ σ', LT (cdL_h ++ (cdL_19 ++ cdL_e)) G 188 1 (1468, [some (.ref 130), some (.ref 0), some (.ref 33), some (.ref 63), some (.int (Int32.ofNat i)), none, none], [], σ) = some (.inl (lwSt (i + 6) σ')) ∧ Iv σ' m' := by
  have i1 : ∀ {ρ : Type} (f : Nat → Option ρ), aIx (Int32.ofNat i + 1) G.1 f = f (i + 1) := fun f => pIxL (Int32.ofNat_add i 1).symm (by omega) (by omega) f
  obtain ⟨ho', A⟩ := A
  rw [lw_19]
  simp only [i1]
  rcases A with ⟨v, h1, h2⟩ | ⟨q, hq, h1, h2⟩
  · obtain ⟨σ1, r1, c1, d1⟩ := h1 σ I.2.1 I.2.2
    obtain ⟨σ2, r2, c2, d2, t2, l2⟩ := h2 (aSL σ1 63 0 v.toInt64) c1.sl d1.sl
    have l3 : σ2.2 63 0 = v.toInt64 := (congrFun l2 0).trans pSL_at
    refine ⟨σ2, ?_, ho', c2, d2⟩
    rw [w_243_ok r1, pCI, r2, pCI, s_thrown, pCI, t2, if_pos rfl, if_pos rfl, l3, if_pos ((lg_cmp_eq _ _).mpr rfl), pA6]
    rfl
  · obtain ⟨σ1, r1, c1, d1⟩ := h1 σ I.2.1 I.2.2
    obtain ⟨v, σ2, r2, c2, d2, t2, l2⟩ := h2 σ1 c1 d1
    have e := List.mem_singleton.mp hq
    subst e
    · refine ⟨σ2, ?_, ho', c2, d2⟩
      rw [w_243_ex0 r1, pCI, r2, pCI, s_thrown, pCI, t2, if_pos rfl, if_neg (by decide), pA6]
      rfl
theorem t_20 (hi : i + 6 ≤ G.1) (hG : G.1 ≤ 3072) (I : Iv σ m) (A : AskS G 248 258 [.int (G.2 (i + 1)), .int (G.2 (i + 2)), .int (G.2 (i + 3)), .int (G.2 (i + 4))] [(0, 1)] m m') : ∃ σ', LT (cdL_h ++ (cdL_20 ++ cdL_e)) G 188 1 (1524, [some (.ref 130), some (.ref 0), some (.ref 33), some (.ref 63), some (.int (Int32.ofNat i)), none, none], [], σ) = some (.inl (lwSt (i + 6) σ')) ∧ Iv σ' m' := by
  have i1 : ∀ {ρ : Type} (f : Nat → Option ρ), aIx (Int32.ofNat i + 1) G.1 f = f (i + 1) := fun f => pIxL (Int32.ofNat_add i 1).symm (by omega) (by omega) f
  have i2 : ∀ {ρ : Type} (f : Nat → Option ρ), aIx (Int32.ofNat i + 2) G.1 f = f (i + 2) := fun f => pIxL (Int32.ofNat_add i 2).symm (by omega) (by omega) f
  have i3 : ∀ {ρ : Type} (f : Nat → Option ρ), aIx (Int32.ofNat i + 3) G.1 f = f (i + 3) := fun f => pIxL (Int32.ofNat_add i 3).symm (by omega) (by omega) f
  have i4 : ∀ {ρ : Type} (f : Nat → Option ρ), aIx (Int32.ofNat i + 4) G.1 f = f (i + 4) := fun f => pIxL (Int32.ofNat_add i 4).symm (by omega) (by omega) f
  obtain ⟨ho', A⟩ := A
  rw [lw_20]
  simp only [i1, i2, i3, i4]
  rcases A with ⟨v, h1, h2⟩ | ⟨q, hq, h1, h2⟩
  · obtain ⟨σ1, r1, c1, d1⟩ := h1 σ I.2.1 I.2.2
    obtain ⟨σ2, r2, c2, d2, t2, l2⟩ := h2 (aSL σ1 63 0 v.toInt64) c1.sl d1.sl
    have l3 : σ2.2 63 0 = v.toInt64 := (congrFun l2 0).trans pSL_at
    refine ⟨σ2, ?_, ho', c2, d2⟩
    rw [w_247_ok r1, pCI, r2, pCI, s_thrown, pCI, t2, if_pos rfl, if_pos rfl, l3, if_pos ((lg_cmp_eq _ _).mpr rfl), pA6]
    rfl
  · obtain ⟨σ1, r1, c1, d1⟩ := h1 σ I.2.1 I.2.2
    obtain ⟨v, σ2, r2, c2, d2, t2, l2⟩ := h2 σ1 c1 d1
    have e := List.mem_singleton.mp hq
    subst e
    · refine ⟨σ2, ?_, ho', c2, d2⟩
      rw [w_247_ex0 r1, pCI, r2, pCI, s_thrown, pCI, t2, if_pos rfl, if_neg (by decide), pA6]
      rfl
theorem t_21 (hi : i + 6 ≤ G.1) (hG : G.1 ≤ 3072) (I : Iv σ m) (A : AskS G 260 263 [.int (G.2 (i + 1))] [(0, 1)] m m') : ∃ σ', LT (cdL_h ++ (cdL_21 ++ cdL_e)) G 188 1 (1616, [some (.ref 130), some (.ref 0), some (.ref 33), some (.ref 63), some (.int (Int32.ofNat i)), none, none], [], σ) = some (.inl (lwSt (i + 6) σ')) ∧ Iv σ' m' := by
  have i1 : ∀ {ρ : Type} (f : Nat → Option ρ), aIx (Int32.ofNat i + 1) G.1 f = f (i + 1) := fun f => pIxL (Int32.ofNat_add i 1).symm (by omega) (by omega) f
  obtain ⟨ho', A⟩ := A
  rw [lw_21]
  simp only [i1]
  rcases A with ⟨v, h1, h2⟩ | ⟨q, hq, h1, h2⟩
  · obtain ⟨σ1, r1, c1, d1⟩ := h1 σ I.2.1 I.2.2
    obtain ⟨σ2, r2, c2, d2, t2, l2⟩ := h2 (aSL σ1 63 0 v.toInt64) c1.sl d1.sl
    have l3 : σ2.2 63 0 = v.toInt64 := (congrFun l2 0).trans pSL_at
    refine ⟨σ2, ?_, ho', c2, d2⟩
    rw [w_259_ok r1, pCI, r2, pCI, s_thrown, pCI, t2, if_pos rfl, if_pos rfl, l3, if_pos ((lg_cmp_eq _ _).mpr rfl), pA6]
    rfl
  · obtain ⟨σ1, r1, c1, d1⟩ := h1 σ I.2.1 I.2.2
    obtain ⟨v, σ2, r2, c2, d2, t2, l2⟩ := h2 σ1 c1 d1
    have e := List.mem_singleton.mp hq
    subst e
    · refine ⟨σ2, ?_, ho', c2, d2⟩
      rw [w_259_ex0 r1, pCI, r2, pCI, s_thrown, pCI, t2, if_pos rfl, if_neg (by decide), pA6]
      rfl
theorem t_22 (hi : i + 6 ≤ G.1) (hG : G.1 ≤ 3072) (I : Iv σ m) (A : AskS G 265 268 [.int (G.2 (i + 1))] [(0, 1), (1, 2)] m m') : ∃ σ', LT (cdL_h ++ (cdL_22 ++ cdL_e)) G 188 1 (1672, [some (.ref 130), some (.ref 0), some (.ref 33), some (.ref 63), some (.int (Int32.ofNat i)), none, none], [], σ) = some (.inl (lwSt (i + 6) σ')) ∧ Iv σ' m' := by
  have i1 : ∀ {ρ : Type} (f : Nat → Option ρ), aIx (Int32.ofNat i + 1) G.1 f = f (i + 1) := fun f => pIxL (Int32.ofNat_add i 1).symm (by omega) (by omega) f
  obtain ⟨ho', A⟩ := A
  rw [lw_22]
  simp only [i1]
  rcases A with ⟨v, h1, h2⟩ | ⟨q, hq, h1, h2⟩
  · obtain ⟨σ1, r1, c1, d1⟩ := h1 σ I.2.1 I.2.2
    obtain ⟨σ2, r2, c2, d2, t2, l2⟩ := h2 (aSL σ1 63 0 v.toInt64) c1.sl d1.sl
    have l3 : σ2.2 63 0 = v.toInt64 := (congrFun l2 0).trans pSL_at
    refine ⟨σ2, ?_, ho', c2, d2⟩
    rw [w_264_ok r1, pCI, r2, pCI, s_thrown, pCI, t2, if_pos rfl, if_pos rfl, l3, if_pos ((lg_cmp_eq _ _).mpr rfl), pA6]
    rfl
  · obtain ⟨σ1, r1, c1, d1⟩ := h1 σ I.2.1 I.2.2
    obtain ⟨v, σ2, r2, c2, d2, t2, l2⟩ := h2 σ1 c1 d1
    rcases List.mem_cons.mp hq with e | e
    · subst e
      refine ⟨σ2, ?_, ho', c2, d2⟩
      rw [w_264_ex0 r1, pCI, r2, pCI, s_thrown, pCI, t2, if_pos rfl, if_neg (by decide), pA6]
      rfl
    · have e := List.mem_singleton.mp e
      subst e
      refine ⟨σ2, ?_, ho', c2, d2⟩
      rw [w_264_ex1 r1, pCI, r2, pCI, s_thrown, pCI, t2, if_pos rfl, if_neg (by decide), pA6]
      rfl
theorem t_23 (hi : i + 6 ≤ G.1) (hG : G.1 ≤ 3072) (I : Iv σ m) (A : AskS G 271 272 [.int (G.2 (i + 1))] [(0, 1), (1, 2)] m m') : ∃ σ', LT (cdL_h ++ (cdL_23 ++ cdL_e)) G 188 1 (1728, [some (.ref 130), some (.ref 0), some (.ref 33), some (.ref 63), some (.int (Int32.ofNat i)), none, none], [], σ) = some (.inl (lwSt (i + 6) σ')) ∧ Iv σ' m' := by
  have i1 : ∀ {ρ : Type} (f : Nat → Option ρ), aIx (Int32.ofNat i + 1) G.1 f = f (i + 1) := fun f => pIxL (Int32.ofNat_add i 1).symm (by omega) (by omega) f
  obtain ⟨ho', A⟩ := A
  rw [lw_23]
  simp only [i1]
  rcases A with ⟨v, h1, h2⟩ | ⟨q, hq, h1, h2⟩
  · obtain ⟨σ1, r1, c1, d1⟩ := h1 σ I.2.1 I.2.2
    obtain ⟨σ2, r2, c2, d2, t2, l2⟩ := h2 (aSL σ1 63 0 v.toInt64) c1.sl d1.sl
    have l3 : σ2.2 63 0 = v.toInt64 := (congrFun l2 0).trans pSL_at
    refine ⟨σ2, ?_, ho', c2, d2⟩
    rw [w_270_ok r1, pCI, r2, pCI, s_thrown, pCI, t2, if_pos rfl, if_pos rfl, l3, if_pos ((lg_cmp_eq _ _).mpr rfl), pA6]
    rfl
  · obtain ⟨σ1, r1, c1, d1⟩ := h1 σ I.2.1 I.2.2
    obtain ⟨v, σ2, r2, c2, d2, t2, l2⟩ := h2 σ1 c1 d1
    rcases List.mem_cons.mp hq with e | e
    · subst e
      refine ⟨σ2, ?_, ho', c2, d2⟩
      rw [w_270_ex0 r1, pCI, r2, pCI, s_thrown, pCI, t2, if_pos rfl, if_neg (by decide), pA6]
      rfl
    · have e := List.mem_singleton.mp e
      subst e
      refine ⟨σ2, ?_, ho', c2, d2⟩
      rw [w_270_ex1 r1, pCI, r2, pCI, s_thrown, pCI, t2, if_pos rfl, if_neg (by decide), pA6]
      rfl
theorem t_24 (hi : i + 6 ≤ G.1) (hG : G.1 ≤ 3072) (I : Iv σ m) (A : AskS G 274 277 [.int (G.2 (i + 1))] [(0, 1)] m m') : ∃ σ', LT (cdL_h ++ (cdL_24 ++ cdL_e)) G 188 1 (1784, [some (.ref 130), some (.ref 0), some (.ref 33), some (.ref 63), some (.int (Int32.ofNat i)), none, none], [], σ) = some (.inl (lwSt (i + 6) σ')) ∧ Iv σ' m' := by
  have i1 : ∀ {ρ : Type} (f : Nat → Option ρ), aIx (Int32.ofNat i + 1) G.1 f = f (i + 1) := fun f => pIxL (Int32.ofNat_add i 1).symm (by omega) (by omega) f
  obtain ⟨ho', A⟩ := A
  rw [lw_24]
  simp only [i1]
  rcases A with ⟨v, h1, h2⟩ | ⟨q, hq, h1, h2⟩
  · obtain ⟨σ1, r1, c1, d1⟩ := h1 σ I.2.1 I.2.2
    obtain ⟨σ2, r2, c2, d2, t2, l2⟩ := h2 (aSL σ1 63 0 v.toInt64) c1.sl d1.sl
    have l3 : σ2.2 63 0 = v.toInt64 := (congrFun l2 0).trans pSL_at
    refine ⟨σ2, ?_, ho', c2, d2⟩
    rw [w_273_ok r1, pCI, r2, pCI, s_thrown, pCI, t2, if_pos rfl, if_pos rfl, l3, if_pos ((lg_cmp_eq _ _).mpr rfl), pA6]
    rfl
  · obtain ⟨σ1, r1, c1, d1⟩ := h1 σ I.2.1 I.2.2
    obtain ⟨v, σ2, r2, c2, d2, t2, l2⟩ := h2 σ1 c1 d1
    have e := List.mem_singleton.mp hq
    subst e
    · refine ⟨σ2, ?_, ho', c2, d2⟩
      rw [w_273_ex0 r1, pCI, r2, pCI, s_thrown, pCI, t2, if_pos rfl, if_neg (by decide), pA6]
      rfl
theorem t_26 (hi : i + 6 ≤ G.1) (hG : G.1 ≤ 3072) (I : Iv σ m) (A : AskS G 282 283 [.int (G.2 (i + 1)), .int (G.2 (i + 2)), .int (G.2 (i + 3))] [(1, 1)] m m') : ∃ σ', LT (cdL_h ++ (cdL_26 ++ cdL_e)) G 188 1 (1853, [some (.ref 130), some (.ref 0), some (.ref 33), some (.ref 63), some (.int (Int32.ofNat i)), none, none], [], σ) = some (.inl (lwSt (i + 6) σ')) ∧ Iv σ' m' := by
  have i1 : ∀ {ρ : Type} (f : Nat → Option ρ), aIx (Int32.ofNat i + 1) G.1 f = f (i + 1) := fun f => pIxL (Int32.ofNat_add i 1).symm (by omega) (by omega) f
  have i2 : ∀ {ρ : Type} (f : Nat → Option ρ), aIx (Int32.ofNat i + 2) G.1 f = f (i + 2) := fun f => pIxL (Int32.ofNat_add i 2).symm (by omega) (by omega) f
  have i3 : ∀ {ρ : Type} (f : Nat → Option ρ), aIx (Int32.ofNat i + 3) G.1 f = f (i + 3) := fun f => pIxL (Int32.ofNat_add i 3).symm (by omega) (by omega) f
  obtain ⟨ho', A⟩ := A
  rw [lw_26]
  simp only [i1, i2, i3]
  rcases A with ⟨v, h1, h2⟩ | ⟨q, hq, h1, h2⟩
  · obtain ⟨σ1, r1, c1, d1⟩ := h1 σ I.2.1 I.2.2
    obtain ⟨σ2, r2, c2, d2, t2, l2⟩ := h2 (aSL σ1 63 0 v.toInt64) c1.sl d1.sl
    have l3 : σ2.2 63 0 = v.toInt64 := (congrFun l2 0).trans pSL_at
    refine ⟨σ2, ?_, ho', c2, d2⟩
    rw [w_281_ok r1, pCI, r2, pCI, s_thrown, pCI, t2, if_pos rfl, if_pos rfl, l3, if_pos ((lg_cmp_eq _ _).mpr rfl), pA6]
    rfl
  · obtain ⟨σ1, r1, c1, d1⟩ := h1 σ I.2.1 I.2.2
    obtain ⟨v, σ2, r2, c2, d2, t2, l2⟩ := h2 σ1 c1 d1
    have e := List.mem_singleton.mp hq
    subst e
    · refine ⟨σ2, ?_, ho', c2, d2⟩
      rw [w_281_ex1 r1, pCI, r2, pCI, s_thrown, pCI, t2, if_pos rfl, if_neg (by decide), pA6]
      rfl
theorem t_27 (hi : i + 6 ≤ G.1) (hG : G.1 ≤ 3072) (I : Iv σ m) (A : AskS G 285 287 [.int (G.2 (i + 1)), .int (G.2 (i + 2)), .int (G.2 (i + 3)), .int (G.2 (i + 4))] [(0, 1), (1, 2)] m m') : ∃ σ', LT (cdL_h ++ (cdL_27 ++ cdL_e)) G 188 1 (1933, [some (.ref 130), some (.ref 0), some (.ref 33), some (.ref 63), some (.int (Int32.ofNat i)), none, none], [], σ) = some (.inl (lwSt (i + 6) σ')) ∧ Iv σ' m' := by
  have i1 : ∀ {ρ : Type} (f : Nat → Option ρ), aIx (Int32.ofNat i + 1) G.1 f = f (i + 1) := fun f => pIxL (Int32.ofNat_add i 1).symm (by omega) (by omega) f
  have i2 : ∀ {ρ : Type} (f : Nat → Option ρ), aIx (Int32.ofNat i + 2) G.1 f = f (i + 2) := fun f => pIxL (Int32.ofNat_add i 2).symm (by omega) (by omega) f
  have i3 : ∀ {ρ : Type} (f : Nat → Option ρ), aIx (Int32.ofNat i + 3) G.1 f = f (i + 3) := fun f => pIxL (Int32.ofNat_add i 3).symm (by omega) (by omega) f
  have i4 : ∀ {ρ : Type} (f : Nat → Option ρ), aIx (Int32.ofNat i + 4) G.1 f = f (i + 4) := fun f => pIxL (Int32.ofNat_add i 4).symm (by omega) (by omega) f
  obtain ⟨ho', A⟩ := A
  rw [lw_27]
  simp only [i1, i2, i3, i4]
  rcases A with ⟨v, h1, h2⟩ | ⟨q, hq, h1, h2⟩
  · obtain ⟨σ1, r1, c1, d1⟩ := h1 σ I.2.1 I.2.2
    obtain ⟨σ2, r2, c2, d2, t2, l2⟩ := h2 (aSL σ1 63 0 v.toInt64) c1.sl d1.sl
    have l3 : σ2.2 63 0 = v.toInt64 := (congrFun l2 0).trans pSL_at
    refine ⟨σ2, ?_, ho', c2, d2⟩
    rw [w_284_ok r1, pCI, r2, pCI, s_thrown, pCI, t2, if_pos rfl, if_pos rfl, l3, if_pos ((lg_cmp_eq _ _).mpr rfl), pA6]
    rfl
  · obtain ⟨σ1, r1, c1, d1⟩ := h1 σ I.2.1 I.2.2
    obtain ⟨v, σ2, r2, c2, d2, t2, l2⟩ := h2 σ1 c1 d1
    rcases List.mem_cons.mp hq with e | e
    · subst e
      refine ⟨σ2, ?_, ho', c2, d2⟩
      rw [w_284_ex0 r1, pCI, r2, pCI, s_thrown, pCI, t2, if_pos rfl, if_neg (by decide), pA6]
      rfl
    · have e := List.mem_singleton.mp e
      subst e
      refine ⟨σ2, ?_, ho', c2, d2⟩
      rw [w_284_ex1 r1, pCI, r2, pCI, s_thrown, pCI, t2, if_pos rfl, if_neg (by decide), pA6]
      rfl
theorem t_28 (hi : i + 6 ≤ G.1) (hG : G.1 ≤ 3072) (I : Iv σ m) (A : AskS G 290 293 [.int (G.2 (i + 1)), .int (G.2 (i + 2)), .int (G.2 (i + 3)), .int (G.2 (i + 4))] [(0, 1)] m m') : ∃ σ', LT (cdL_h ++ (cdL_28 ++ cdL_e)) G 188 1 (2025, [some (.ref 130), some (.ref 0), some (.ref 33), some (.ref 63), some (.int (Int32.ofNat i)), none, none], [], σ) = some (.inl (lwSt (i + 6) σ')) ∧ Iv σ' m' := by
  have i1 : ∀ {ρ : Type} (f : Nat → Option ρ), aIx (Int32.ofNat i + 1) G.1 f = f (i + 1) := fun f => pIxL (Int32.ofNat_add i 1).symm (by omega) (by omega) f
  have i2 : ∀ {ρ : Type} (f : Nat → Option ρ), aIx (Int32.ofNat i + 2) G.1 f = f (i + 2) := fun f => pIxL (Int32.ofNat_add i 2).symm (by omega) (by omega) f
  have i3 : ∀ {ρ : Type} (f : Nat → Option ρ), aIx (Int32.ofNat i + 3) G.1 f = f (i + 3) := fun f => pIxL (Int32.ofNat_add i 3).symm (by omega) (by omega) f
  have i4 : ∀ {ρ : Type} (f : Nat → Option ρ), aIx (Int32.ofNat i + 4) G.1 f = f (i + 4) := fun f => pIxL (Int32.ofNat_add i 4).symm (by omega) (by omega) f
  obtain ⟨ho', A⟩ := A
  rw [lw_28]
  simp only [i1, i2, i3, i4]
  rcases A with ⟨v, h1, h2⟩ | ⟨q, hq, h1, h2⟩
  · obtain ⟨σ1, r1, c1, d1⟩ := h1 σ I.2.1 I.2.2
    obtain ⟨σ2, r2, c2, d2, t2, l2⟩ := h2 (aSL σ1 63 0 v.toInt64) c1.sl d1.sl
    have l3 : σ2.2 63 0 = v.toInt64 := (congrFun l2 0).trans pSL_at
    refine ⟨σ2, ?_, ho', c2, d2⟩
    rw [w_289_ok r1, pCI, r2, pCI, s_thrown, pCI, t2, if_pos rfl, if_pos rfl, l3, if_pos ((lg_cmp_eq _ _).mpr rfl), pA6]
    rfl
  · obtain ⟨σ1, r1, c1, d1⟩ := h1 σ I.2.1 I.2.2
    obtain ⟨v, σ2, r2, c2, d2, t2, l2⟩ := h2 σ1 c1 d1
    have e := List.mem_singleton.mp hq
    subst e
    · refine ⟨σ2, ?_, ho', c2, d2⟩
      rw [w_289_ex0 r1, pCI, r2, pCI, s_thrown, pCI, t2, if_pos rfl, if_neg (by decide), pA6]
      rfl
theorem t_29 (hi : i + 6 ≤ G.1) (hG : G.1 ≤ 3072) (I : Iv σ m) (A : AskS G 295 299 [.int (G.2 (i + 1)), .int (G.2 (i + 2)), .int (G.2 (i + 3))] [(0, 1)] m m') : ∃ σ', LT (cdL_h ++ (cdL_29 ++ cdL_e)) G 188 1 (2117, [some (.ref 130), some (.ref 0), some (.ref 33), some (.ref 63), some (.int (Int32.ofNat i)), none, none], [], σ) = some (.inl (lwSt (i + 6) σ')) ∧ Iv σ' m' := by
  have i1 : ∀ {ρ : Type} (f : Nat → Option ρ), aIx (Int32.ofNat i + 1) G.1 f = f (i + 1) := fun f => pIxL (Int32.ofNat_add i 1).symm (by omega) (by omega) f
  have i2 : ∀ {ρ : Type} (f : Nat → Option ρ), aIx (Int32.ofNat i + 2) G.1 f = f (i + 2) := fun f => pIxL (Int32.ofNat_add i 2).symm (by omega) (by omega) f
  have i3 : ∀ {ρ : Type} (f : Nat → Option ρ), aIx (Int32.ofNat i + 3) G.1 f = f (i + 3) := fun f => pIxL (Int32.ofNat_add i 3).symm (by omega) (by omega) f
  obtain ⟨ho', A⟩ := A
  rw [lw_29]
  simp only [i1, i2, i3]
  rcases A with ⟨v, h1, h2⟩ | ⟨q, hq, h1, h2⟩
  · obtain ⟨σ1, r1, c1, d1⟩ := h1 σ I.2.1 I.2.2
    obtain ⟨σ2, r2, c2, d2, t2, l2⟩ := h2 (aSL σ1 63 0 v.toInt64) c1.sl d1.sl
    have l3 : σ2.2 63 0 = v.toInt64 := (congrFun l2 0).trans pSL_at
    refine ⟨σ2, ?_, ho', c2, d2⟩
    rw [w_294_ok r1, pCI, r2, pCI, s_thrown, pCI, t2, if_pos rfl, if_pos rfl, l3, if_pos ((lg_cmp_eq _ _).mpr rfl), pA6]
    rfl
  · obtain ⟨σ1, r1, c1, d1⟩ := h1 σ I.2.1 I.2.2
    obtain ⟨v, σ2, r2, c2, d2, t2, l2⟩ := h2 σ1 c1 d1
    have e := List.mem_singleton.mp hq
    subst e
    · refine ⟨σ2, ?_, ho', c2, d2⟩
      rw [w_294_ex0 r1, pCI, r2, pCI, s_thrown, pCI, t2, if_pos rfl, if_neg (by decide), pA6]
      rfl
theorem t_30 (hi : i + 6 ≤ G.1) (hG : G.1 ≤ 3072) (I : Iv σ m) (A : AskS G 301 306 [.int (G.2 (i + 1))] [(0, 1)] m m') : ∃ σ', LT (cdL_h ++ (cdL_30 ++ cdL_e)) G 188 1 (2197, [some (.ref 130), some (.ref 0), some (.ref 33), some (.ref 63), some (.int (Int32.ofNat i)), none, none], [], σ) = some (.inl (lwSt (i + 6) σ')) ∧ Iv σ' m' := by
  have i1 : ∀ {ρ : Type} (f : Nat → Option ρ), aIx (Int32.ofNat i + 1) G.1 f = f (i + 1) := fun f => pIxL (Int32.ofNat_add i 1).symm (by omega) (by omega) f
  obtain ⟨ho', A⟩ := A
  rw [lw_30]
  simp only [i1]
  rcases A with ⟨v, h1, h2⟩ | ⟨q, hq, h1, h2⟩
  · obtain ⟨σ1, r1, c1, d1⟩ := h1 σ I.2.1 I.2.2
    obtain ⟨σ2, r2, c2, d2, t2, l2⟩ := h2 (aSL σ1 63 0 v.toInt64) c1.sl d1.sl
    have l3 : σ2.2 63 0 = v.toInt64 := (congrFun l2 0).trans pSL_at
    refine ⟨σ2, ?_, ho', c2, d2⟩
    rw [w_300_ok r1, pCI, r2, pCI, s_thrown, pCI, t2, if_pos rfl, if_pos rfl, l3, if_pos ((lg_cmp_eq _ _).mpr rfl), pA6]
    rfl
  · obtain ⟨σ1, r1, c1, d1⟩ := h1 σ I.2.1 I.2.2
    obtain ⟨v, σ2, r2, c2, d2, t2, l2⟩ := h2 σ1 c1 d1
    have e := List.mem_singleton.mp hq
    subst e
    · refine ⟨σ2, ?_, ho', c2, d2⟩
      rw [w_300_ex0 r1, pCI, r2, pCI, s_thrown, pCI, t2, if_pos rfl, if_neg (by decide), pA6]
      rfl
end PCase
