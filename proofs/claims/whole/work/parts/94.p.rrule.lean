/-! ===== the reference reads a rule ===== -/
theorem dig_of {x : Int32} (h1 : 48 ≤ x) (h2 : x ≤ 57) : ∃ e, e < 10 ∧ x = Int32.ofNat (48 + e) := by
  rw [pLe, show (48 : Int32).toInt = 48 from rfl] at h1
  rw [pLe, show (57 : Int32).toInt = 57 from rfl] at h2
  refine ⟨x.toInt.toNat - 48, by omega, ?_⟩
  apply Int32.toInt_inj.mp
  rw [pN_int (by omega)]
  omega
theorem tV_nat {T : Tx} {q : Nat} : ∀ k, (∀ j, j < k → 48 ≤ T.2 (q + j) ∧ T.2 (q + j) ≤ 57) → ∃ n, n < 10 ^ k ∧ tV T k q 0 = Int32.ofNat n
  | 0, _ => ⟨0, by decide, rfl⟩
  | k + 1, h => by
    obtain ⟨n, hn, e⟩ := tV_nat k (fun j hj => h j (by omega))
    obtain ⟨x, hx, ex⟩ := dig_of (h k (by omega)).1 (h k (by omega)).2
    refine ⟨n * 10 + x, by rw [Nat.pow_succ]; omega, ?_⟩
    rw [tV_snoc, e, ex, show (10 : Int32) = Int32.ofNat 10 from rfl, pMulN, pA, show (48 : Int32) = Int32.ofNat 48 from rfl, pSubN (by omega), show n * 10 + (48 + x) - 48 = n * 10 + x by omega]
theorem tEq_d {T : Tx} {q : Nat} (h : tKq T q = 2) : tEq T q = tRn T 48 57 (T.1 - q) q := by
  unfold tEq
  rw [if_neg (by omega), if_neg (by omega), if_pos h]
theorem tN_nat {T : Tx} {p : Nat} (h : tK T p = 2) : (tEq T (tQ T p) - tQ T p ≤ 4 → ∃ n, n < 10000 ∧ tN T p = Int32.ofNat n) ∧ (tN T p ≤ 9999 ↔ tEq T (tQ T p) - tQ T p ≤ 4) := by
  have a : tEq T (tQ T p) - tQ T p ≤ 4 → ∃ n, n < 10000 ∧ tN T p = Int32.ofNat n := by
    intro h4
    have al : ∀ j, j < tEq T (tQ T p) - tQ T p → 48 ≤ T.2 (tQ T p + j) ∧ T.2 (tQ T p + j) ≤ 57 := by
      intro j hj
      refine tRn_all (T := T) (T.1 - tQ T p) (tQ T p) (tQ T p + j) (by omega) ?_
      rw [← tEq_d h]
      omega
    obtain ⟨n, hn, e⟩ := tV_nat (T := T) (q := tQ T p) _ al
    have le : 10 ^ (tEq T (tQ T p) - tQ T p) ≤ 10 ^ 4 := Nat.pow_le_pow_right (by decide) h4
    have e4 : (10 : Nat) ^ 4 = 10000 := by decide
    exact ⟨n, by omega, (if_pos h4).trans e⟩
  refine ⟨a, fun h9 => ?_, fun h4 => ?_⟩
  · by_cases h4 : tEq T (tQ T p) - tQ T p ≤ 4
    · exact h4
    · rw [tN_long h4] at h9
      exact absurd h9 (by decide)
  · obtain ⟨n, hn, e⟩ := a h4
    rw [e]
    exact (pN_le (b := 9999) (by omega) (by decide)).mpr (by omega)
theorem mAm_none {T : Tx} {Q : Nat} : ∀ (ws : List (List Int32)) (j : Nat), j + ws.length < 2147483648 → ¬ 0 ≤ mAm T Q ws j → ∀ w ∈ ws, ¬ tIs T Q w = true
  | [], _, _, _ => fun w hw => absurd hw (List.not_mem_nil)
  | w :: ws, j, hj, h => by
    rw [List.length_cons] at hj
    have h : ¬ 0 ≤ (if tIs T Q w = true then Int32.ofNat j else mAm T Q ws (j + 1)) := h
    by_cases e : tIs T Q w = true
    · rw [if_pos e] at h
      exact absurd (pN_0 (by omega)) h
    · rw [if_neg e] at h
      intro v hv
      rcases List.mem_cons.mp hv with rfl | hv
      · exact e
      · exact mAm_none ws (j + 1) (by omega) h v hv
theorem nm_kn {T : Tx} {s : Nat × Nat} : (0 ≤ mWh T s nmL → ∃ k, k < 12 ∧ mWh T s nmL = Int32.ofNat k ∧ kn T (tQ T s.2) = Int32.ofNat k) ∧ (¬ 0 ≤ mWh T s nmL → kn T (tQ T s.2) < 0 ∨ 11 < kn T (tQ T s.2)) := by
  constructor
  · intro h
    rcases mAm_rng (T := T) (Q := tQ T s.2) (nmL.map KW) 0 with a | ⟨k, a, b, c⟩
    · have h : 0 ≤ mAm T (tQ T s.2) (nmL.map KW) 0 := h
      rw [a] at h
      exact absurd h (by decide)
    · have hk : k < 12 := a
      refine ⟨k, hk, by rw [show mWh T s nmL = mAm T (tQ T s.2) (nmL.map KW) 0 from rfl, b, Nat.zero_add], (kn_iff (by omega)).mpr ?_⟩
      have e : (nmL.map KW).getD k [] = KW k := (by decide : ∀ j : Fin 12, (nmL.map KW).getD j.val [] = KW j.val) ⟨k, hk⟩
      rw [← e]
      exact c
  · intro h
    have nn := mAm_none (T := T) (Q := tQ T s.2) (nmL.map KW) 0 (by decide) h
    rcases kn_cases T (tQ T s.2) with ⟨a, _⟩ | ⟨x, hx, a, b⟩
    · rw [a]
      exact Or.inl (by decide)
    · rw [a]
      refine Or.inr ((pN_lt (a := 11) (by decide) (by omega)).mpr ?_)
      by_cases h11 : x ≤ 11
      · exact absurd b (nn (KW x) (List.mem_map.mpr ⟨x, (by decide : ∀ j : Fin 12, j.val ∈ nmL) ⟨x, by omega⟩, rfl⟩))
      · omega
section PRRule
variable {G : Nat × (Nat → Int32)} {d : Nat} {σ : aH} {T : Tx} {rd p : Nat} {pend : List Nat} {out : List Int32}
/-- what the reading of a rule leaves as it was -/
def rRu (rd : Nat) (σ σ' : aH) : Prop := pSame [33, 46, 47, 49] σ σ' ∧ (∀ k, k < 16 ∨ k = 18 ∨ (25 < k ∧ k < 31) ∨ 33 < k → σ'.1 33 k = σ.1 33 k) ∧ ∀ i, i < rd → σ'.1 46 i = σ.1 46 i
theorem rRu.rfl' : rRu rd σ σ := ⟨pSame.rfl', fun _ _ => rfl, fun _ _ => rfl⟩
theorem rRu.trans {a b : aH} (f : rRu rd σ a) (g : rRu rd a b) : rRu rd σ b := ⟨f.1.trans g.1, fun k hk => (g.2.1 k hk).trans (f.2.1 k hk), fun i hi => (g.2.2 i hi).trans (f.2.2 i hi)⟩
theorem rFr.ru {a : aH} (f : rFr σ a) : rRu rd σ a := ⟨f.1.mono (by decide), fun k hk => f.2 k (by omega), fun i _ => congrFun (f.1.at (by decide)) i⟩
def RR (σ : aH) (rd : Nat) (pend : List Nat) (out : List Int32) : Prop := σ.1 33 32 = Int32.ofNat pend.length ∧ σ.1 33 33 = Int32.ofNat (opn pend + 1) ∧ stk cdO (σ.1 47) pend ∧ σ.1 33 31 = Int32.ofNat (rd + (eL out).length) ∧ pSeg (σ.1 46) rd (eL out) ∧ σ.1 49 (opn pend + 1) = bI (hsT pend) ∧ tRs (σ.1 49) pend
theorem RR.fr {a : aH} (q : RR σ rd pend out) (f : rFr σ a) : RR a rd pend out := by
  unfold RR
  rw [f.2 31 (by omega), f.2 32 (by omega), f.2 33 (by omega), f.1.at (by decide), f.1.at (by decide), f.1.at (by decide)]
  exact q
/-- behind a fault: only bounds -/
def RF (σ : aH) (T : Tx) (s : Nat × Nat) : Prop := RS σ T s ∧ s.1 ≠ 0 ∧ ∃ w r, σ.1 33 32 = Int32.ofNat w ∧ σ.1 33 31 = Int32.ofNat r ∧ w < 720 ∧ r + w < 1200
theorem r_wait {n : Nat} {c : Int32} (e : σ.1 33 32 = Int32.ofNat n) (hn : n < 720) : Rn G (d + 1) 87 [.ref 33, .int c] σ = oV (aSI (aSI σ 47 n c) 33 32 (Int32.ofNat (n + 1))) := by
  rw [e_Md_waitsFor, e, pIx hn (by decide), pN_s]
theorem r_put {n : Nat} {x : Int32} (e : σ.1 33 31 = Int32.ofNat n) (hn : n < 1200) : Rn G (d + 1) 89 [.ref 33, .int x] σ = oV (aSI (aSI σ 46 n x) 33 31 (Int32.ofNat (n + 1))) := by
  rw [e_Md_puts, e, pIx hn (by decide), pN_s]
theorem r_str {x : Nat} (h : x < 10) : Rn G (d + 1) 91 [.int (cdO x)] σ = oI (Int32.ofNat (opB x)) σ := by
  rw [e_Md_strength]
  rcases (show x = 0 ∨ x = 1 ∨ x = 2 ∨ x = 3 ∨ x = 4 ∨ x = 5 ∨ x = 6 ∨ x = 7 ∨ x = 8 ∨ x = 9 by omega) with rfl | rfl | rfl | rfl | rfl | rfl | rfl | rfl | rfl | rfl <;> rfl
theorem r_strA {x : Int32} : ∃ v, Rn G (d + 1) 91 [.int x] σ = oI v σ := by
  rw [e_Md_strength]
  repeat' split
  all_goals exact ⟨_, rfl⟩
theorem RS.i33 {s : Nat × Nat} (q : RS σ T s) {a : aH} (f : rRu rd σ a) (h : ∀ k, 16 ≤ k → k ≤ 25 → a.1 33 k = σ.1 33 k) (hl : a.2 33 25 = σ.2 33 25) : RS a T s := q.same h hl (f.1.at (by decide))
/-- steps that leave the token alone -/
def rQt (rd : Nat) (σ a : aH) : Prop := rRu rd σ a ∧ (∀ k, k < 31 → a.1 33 k = σ.1 33 k) ∧ a.2 33 = σ.2 33
theorem rQt.rfl' : rQt rd σ σ := ⟨rRu.rfl', fun _ _ => rfl, rfl⟩
theorem rQt.trans {a b : aH} (f : rQt rd σ a) (g : rQt rd a b) : rQt rd σ b := ⟨f.1.trans g.1, fun k hk => (g.2.1 k hk).trans (f.2.1 k hk), g.2.2.trans f.2.2⟩
theorem RS.qt {s : Nat × Nat} {a : aH} (q : RS σ T s) (f : rQt rd σ a) : RS a T s := q.same (fun k h1 h2 => f.2.1 k (by omega)) (congrFun f.2.2 25) (f.1.1.at (by decide))
theorem qt_put {n : Nat} {x y : Int32} (h : rd ≤ n) : rQt rd σ (aSI (aSI σ 46 n x) 33 31 y) := ⟨⟨(pSame.rfl'.si (by decide)).si (by decide), fun k hk => by rw [pSI_of (by omega), pSI_ne (by decide)], fun i hi => by rw [pSI_ne (by decide), pSI_of (by omega)]⟩, fun k hk => by rw [pSI_of (by omega), pSI_ne (by decide)], rfl⟩
theorem qt_wait {n : Nat} {x y : Int32} : rQt rd σ (aSI (aSI σ 47 n x) 33 32 y) := ⟨⟨(pSame.rfl'.si (by decide)).si (by decide), fun k hk => by rw [pSI_of (by omega), pSI_ne (by decide)], fun i hi => by rw [pSI_ne (by decide), pSI_ne (by decide)]⟩, fun k hk => by rw [pSI_of (by omega), pSI_ne (by decide)], rfl⟩
theorem qt_32 {y : Int32} : rQt rd σ (aSI σ 33 32 y) := ⟨⟨pSame.rfl'.si (by decide), fun k hk => by rw [pSI_of (by omega)], fun i hi => by rw [pSI_ne (by decide)]⟩, fun k hk => by rw [pSI_of (by omega)], rfl⟩
theorem qt_33 {y : Int32} : rQt rd σ (aSI σ 33 33 y) := ⟨⟨pSame.rfl'.si (by decide), fun k hk => by rw [pSI_of (by omega)], fun i hi => by rw [pSI_ne (by decide)]⟩, fun k hk => by rw [pSI_of (by omega)], rfl⟩
theorem qt_49 {n : Nat} {y : Int32} : rQt rd σ (aSI σ 49 n y) := ⟨⟨pSame.rfl'.si (by decide), fun k hk => by rw [pSI_ne (by decide)], fun i hi => by rw [pSI_ne (by decide)]⟩, fun k hk => by rw [pSI_ne (by decide)], rfl⟩
/-- what waits is dropped, whatever it is -/
theorem r_dropA {x1 : Int32} : ∀ (w r : Nat) (σ : aH), σ.1 33 32 = Int32.ofNat w → σ.1 33 31 = Int32.ofNat r → w ≤ 720 → r + w < 1200 → rd ≤ r → ∃ a r', Lq G (d + 1) M_90 (0, [some (.ref 33), some (.int x1)], [], σ) = oV a ∧ rQt rd σ a ∧ a.1 33 31 = Int32.ofNat r' ∧ r' ≤ r + w ∧ rd ≤ r'
  | 0, r, σ, e32, e31, _, _, hr => by
    rw [c_Md_drops_0, e32, if_pos (show Int32.ofNat 0 ≤ 0 from Int32.le_refl 0)]
    exact ⟨σ, r, rfl, rQt.rfl', e31, by omega, hr⟩
  | w + 1, r, σ, e32, e31, hw, hb, hr => by
    rw [c_Md_drops_0, e32, if_neg (show ¬ Int32.ofNat (w + 1) ≤ 0 from fun h => absurd ((pLe00 (by omega)).mp h) (by omega)), show Int32.ofNat (w + 1) - 1 = Int32.ofNat w from pS1 (by omega), pIx (by omega) (by decide)]
    by_cases h12 : σ.1 47 w = 12
    · rw [if_pos h12]
      exact ⟨σ, r, rfl, rQt.rfl', e31, by omega, hr⟩
    · obtain ⟨v, ev⟩ := r_strA (G := G) (d := d) (σ := σ) (x := σ.1 47 w)
      rw [if_neg h12, pIx (by omega) (by decide), ev, pCI]
      by_cases hv : v < x1
      · rw [if_pos hv]
        exact ⟨σ, r, rfl, rQt.rfl', e31, by omega, hr⟩
      · have e31' : (aSI σ 33 32 (Int32.ofNat w)).1 33 31 = Int32.ofNat r := by rw [pSI_of (by decide), e31]
        rw [if_neg hv, e32, show Int32.ofNat (w + 1) - 1 = Int32.ofNat w from pS1 (by omega), pIx (by omega) (by decide), r_put e31' (by omega), pCV]
        obtain ⟨a, r', ea, fa, ga, ha, ka⟩ := r_dropA (x1 := x1) w (r + 1) (aSI (aSI (aSI σ 33 32 (Int32.ofNat w)) 46 r (σ.1 47 w)) 33 31 (Int32.ofNat (r + 1))) (by rw [pSI_of (by decide), pSI_ne (by decide), pSI_at]) pSI_at (by omega) (by omega) (by omega)
        exact ⟨a, r', ea, (qt_32.trans (qt_put hr)).trans fa, ga, by omega, ka⟩
theorem cd12 {x : Nat} (h : x < 10) : cdO x = 12 ↔ x = 0 := by
  rcases (show x = 0 ∨ x = 1 ∨ x = 2 ∨ x = 3 ∨ x = 4 ∨ x = 5 ∨ x = 6 ∨ x = 7 ∨ x = 8 ∨ x = 9 by omega) with rfl | rfl | rfl | rfl | rfl | rfl | rfl | rfl | rfl | rfl <;> decide
theorem r_drops {b : Nat} {x1 : Int32} (hx : x1 = Int32.ofNat b ∨ (x1 = 0 ∧ b = 1)) (hb : 0 < b) (hb8 : b < 8) : ∀ (pend : List Nat) (k : Nat) (σ : aH), okK pend → σ.1 33 32 = Int32.ofNat pend.length → stk cdO (σ.1 47) pend → σ.1 33 31 = Int32.ofNat k → k + pend.length < 1200 → rd ≤ k → ∃ a, Lq G (d + 1) M_90 (0, [some (.ref 33), some (.int x1)], [], σ) = oV a ∧ rQt rd σ a ∧ a.1 33 32 = Int32.ofNat (poR b pend).length ∧ a.1 33 33 = σ.1 33 33 ∧ a.1 47 = σ.1 47 ∧ a.1 49 = σ.1 49 ∧ a.1 33 31 = Int32.ofNat (k + (eL (poO b pend)).length) ∧ pSeg (a.1 46) k (eL (poO b pend)) ∧ ∀ i, i < k → a.1 46 i = σ.1 46 i
  | [], k, σ, _, e32, _, e31, _, hr => by
    rw [c_Md_drops_0, e32, if_pos (show Int32.ofNat ([] : List Nat).length ≤ 0 from Int32.le_refl 0)]
    exact ⟨σ, rfl, rQt.rfl', e32, rfl, rfl, rfl, e31, trivial, fun _ _ => rfl⟩
  | x :: r, k, σ, hk, e32, st, e31, hl, hr => by
    have h83 := (okK_84 hk).1
    have x10 := hk.2.1
    rw [List.length_cons] at h83 hl e32
    have b6 : opB x ≤ 6 := by rcases opB_c x10 with e | e | e | e | e | e | e <;> omega
    rw [c_Md_drops_0, e32, if_neg (show ¬ Int32.ofNat (r.length + 1) ≤ 0 from fun h => absurd ((pLe00 (by omega)).mp h) (by omega)), show Int32.ofNat (r.length + 1) - 1 = Int32.ofNat r.length from pS1 (by omega), pIx (by omega) (by decide), st.1]
    show ∃ a, _ ∧ rQt rd σ a ∧ a.1 33 32 = Int32.ofNat (if b ≤ opB x then poR b r else x :: r).length ∧ a.1 33 33 = σ.1 33 33 ∧ a.1 47 = σ.1 47 ∧ a.1 49 = σ.1 49 ∧ a.1 33 31 = Int32.ofNat (k + (eL (if b ≤ opB x then (-(Int32.ofNat x)) :: poO b r else [])).length) ∧ pSeg (a.1 46) k (eL (if b ≤ opB x then (-(Int32.ofNat x)) :: poO b r else [])) ∧ ∀ i, i < k → a.1 46 i = σ.1 46 i
    by_cases h12 : x = 0
    · have nb : ¬ b ≤ opB x := by rw [h12, opB_0]; omega
      rw [if_pos ((cd12 x10).mpr h12), if_neg nb, if_neg nb]
      exact ⟨σ, rfl, rQt.rfl', e32, rfl, rfl, rfl, e31, trivial, fun _ _ => rfl⟩
    · have o1 : 1 ≤ opB x := by rcases opB_c x10 with e | e | e | e | e | e | e <;> omega
      have cmp : Int32.ofNat (opB x) < x1 ↔ ¬ b ≤ opB x := by
        rcases hx with e | ⟨e, e2⟩
        · rw [e]
          constructor
          · intro h
            have := (pN_lt (by omega) (by omega)).mp h
            omega
          · intro h
            exact (pN_lt (by omega) (by omega)).mpr (by omega)
        · rw [e, e2]
          exact ⟨fun h => absurd h (pN_n0 (by omega)), fun h => absurd o1 h⟩
      rw [if_neg (fun h => h12 ((cd12 x10).mp h)), pIx (by omega) (by decide), st.1, r_str x10, pCI]
      by_cases h : b ≤ opB x
      · have e31' : (aSI σ 33 32 (Int32.ofNat r.length)).1 33 31 = Int32.ofNat k := by rw [pSI_of (by decide), e31]
        rw [if_neg (fun h2 => cmp.mp h2 h), e32, show Int32.ofNat (r.length + 1) - 1 = Int32.ofNat r.length from pS1 (by omega), pIx (by omega) (by decide), st.1, r_put e31' (by omega), pCV, if_pos h, if_pos h]
        obtain ⟨a, ea, fa, a32, a33, a47, a49, a31, a46, ap⟩ := r_drops hx hb hb8 r (k + 1) (aSI (aSI (aSI σ 33 32 (Int32.ofNat r.length)) 46 k (cdO x)) 33 31 (Int32.ofNat (k + 1))) hk.1 (by rw [pSI_of (by decide), pSI_ne (by decide), pSI_at]) (by rw [pSI_ne (by decide), pSI_ne (by decide), pSI_ne (by decide)]; exact st.2) pSI_at (by omega) (by omega)
        have el : eL (-(Int32.ofNat x) :: poO b r) = cdO x :: eL (poO b r) := by
          have := eL_app [-(Int32.ofNat x)] (poO b r)
          rw [eL_neg x10 (by omega)] at this
          exact this
        refine ⟨a, ea, (qt_32.trans (qt_put hr)).trans fa, a32, ?_, ?_, ?_, ?_, ?_, fun i hi => ?_⟩
        · rw [a33, pSI_of (by decide), pSI_ne (by decide), pSI_of (by decide)]
        · rw [a47, pSI_ne (by decide), pSI_ne (by decide), pSI_ne (by decide)]
        · rw [a49, pSI_ne (by decide), pSI_ne (by decide), pSI_ne (by decide)]
        · rw [a31, el, List.length_cons, show k + 1 + (eL (poO b r)).length = k + ((eL (poO b r)).length + 1) by omega]
        · rw [el]
          refine ⟨?_, a46⟩
          rw [ap k (by omega), pSI_ne (by decide), pSI_at]
        · rw [ap i (by omega), pSI_ne (by decide), pSI_of (by omega), pSI_ne (by decide)]
      · rw [if_pos (cmp.mpr h), if_neg h, if_neg h]
        exact ⟨σ, rfl, rQt.rfl', e32, rfl, rfl, rfl, e31, trivial, fun _ _ => rfl⟩
theorem r_dropR {b : Nat} {x1 : Int32} (hx : x1 = Int32.ofNat b ∨ (x1 = 0 ∧ b = 1)) (hb : 0 < b) (hb8 : b < 8) (hk : okK pend) (q : RR σ rd pend out) (hl : rd + (eL out).length + pend.length < 1200) : ∃ a, Rn G (d + 2) 90 [.ref 33, .int x1] σ = oV a ∧ rQt rd σ a ∧ a.1 33 32 = Int32.ofNat (poR b pend).length ∧ a.1 33 33 = σ.1 33 33 ∧ stk cdO (a.1 47) (poR b pend) ∧ a.1 49 = σ.1 49 ∧ a.1 33 31 = Int32.ofNat (rd + (eL (out ++ poO b pend)).length) ∧ pSeg (a.1 46) rd (eL (out ++ poO b pend)) := by
  obtain ⟨q1, q2, q3, q4, q5, q6, q7⟩ := q
  obtain ⟨a, ea, fa, a32, a33, a47, a49, a31, a46, ap⟩ := r_drops (G := G) (d := d) (rd := rd) hx hb hb8 pend (rd + (eL out).length) σ hk q1 q3 q4 hl (by omega)
  refine ⟨a, by rw [e_Md_drops, ea], fa, a32, a33, by rw [a47]; exact stk_po pend q3, a49, ?_, ?_⟩
  · rw [a31, eL_app, List.length_append, Nat.add_assoc]
  · rw [eL_app]
    exact (pSeg_app _ _ _).mpr ⟨pSeg_congr _ _ (fun i h1 h2 => ap i h2) q5, a46⟩
end PRRule
