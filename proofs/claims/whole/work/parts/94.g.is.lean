/-! ===== does a word stand here ===== -/
def wM (T : Tx) (e : Nat) : List Int32 → Nat → Bool
  | [], h => decide (h = e)
  | c :: cs, h => decide (h < e) && decide (T.2 h = c) && wM T e cs (h + 1)
theorem wM_n (T : Tx) (e : Nat) (c : Int32) (cs : List Int32) (h : Nat) : wM T e (c :: cs) h = (decide (h < e) && decide (T.2 h = c) && wM T e cs (h + 1)) := rfl
def tIs (T : Tx) (q : Nat) (w : List Int32) : Bool := (tKq T q == 1) && wM T (tEq T q) w q
theorem wM_iff {T : Tx} {e : Nat} : ∀ (w : List Int32) (h : Nat), wM T e w h = true ↔ e = h + w.length ∧ ∀ j, j < w.length → T.2 (h + j) = w.getD j 0
  | [], h => by
    constructor
    · intro a
      have : h = e := of_decide_eq_true a
      exact ⟨by rw [this]; rfl, fun j hj => absurd hj (Nat.not_lt_zero j)⟩
    · intro a
      have : e = h + 0 := a.1
      exact decide_eq_true (by omega)
  | c :: cs, h => by
    rw [wM_n, Bool.and_eq_true, Bool.and_eq_true, wM_iff cs (h + 1), decide_eq_true_iff, decide_eq_true_iff, List.length_cons]
    constructor
    · intro ⟨⟨a, b⟩, c1, c2⟩
      refine ⟨by omega, fun j hj => ?_⟩
      cases j with
      | zero => exact b
      | succ j =>
        rw [show h + (j + 1) = h + 1 + j by omega, c2 j (by omega)]
        rfl
    · intro ⟨a, b⟩
      refine ⟨⟨by omega, b 0 (by omega)⟩, by omega, fun j hj => ?_⟩
      rw [show h + 1 + j = h + (j + 1) by omega, b (j + 1) (by omega)]
      rfl
theorem tRn_all {T : Tx} {lo hi : Int32} : ∀ k i j, i ≤ j → j < tRn T lo hi k i → lo ≤ T.2 j ∧ T.2 j ≤ hi
  | 0, i, j, h1, h2 => by
    have h2 : j < i := h2
    omega
  | k + 1, i, j, h1, h2 => by
    rw [tRn_n] at h2
    by_cases h : i < T.1 ∧ lo ≤ T.2 i ∧ T.2 i ≤ hi
    · rw [if_pos h] at h2
      by_cases e : j = i
      · rw [e]
        exact h.2
      · exact tRn_all k (i + 1) j (by omega) h2
    · rw [if_neg h] at h2
      omega
theorem tEq_w {T : Tx} {q : Nat} (h : tKq T q = 1) : tEq T q = tRn T 97 122 (T.1 - q) q := by
  unfold tEq
  rw [if_neg (by omega), if_pos h]
theorem tP_pk (T : Tx) (q : Nat) : ∀ n, tP T q n = pkF (fun j => tD T (q + j)) n
  | 0 => rfl
  | n + 1 => by
    show tP T q n * 32 + tD T (q + n) = pkF _ n * 32 + tD T (q + n)
    rw [tP_pk T q n]
theorem pkF_inj {f g : Nat → Nat} : ∀ n m, (∀ j, j < n → 1 ≤ f j ∧ f j ≤ 26) → (∀ j, j < m → 1 ≤ g j ∧ g j ≤ 26) → pkF f n = pkF g m → n = m ∧ ∀ j, j < n → f j = g j
  | 0, 0, _, _, _ => ⟨rfl, fun j hj => absurd hj (Nat.not_lt_zero j)⟩
  | 0, m + 1, _, hg, e => by
    have a := hg m (by omega)
    have e : 0 = pkF g m * 32 + g m := e
    omega
  | n + 1, 0, hf, _, e => by
    have a := hf n (by omega)
    have e : pkF f n * 32 + f n = 0 := e
    omega
  | n + 1, m + 1, hf, hg, e => by
    have a := hf n (by omega)
    have b := hg m (by omega)
    have e : pkF f n * 32 + f n = pkF g m * 32 + g m := e
    obtain ⟨c1, c2⟩ := pkF_inj n m (fun j hj => hf j (by omega)) (fun j hj => hg j (by omega)) (by omega)
    subst c1
    refine ⟨rfl, fun j hj => ?_⟩
    by_cases ej : j = n
    · rw [ej]
      omega
    · exact c2 j (by omega)
theorem pkF_congr {f g : Nat → Nat} : ∀ n, (∀ j, j < n → f j = g j) → pkF f n = pkF g n
  | 0, _ => rfl
  | n + 1, h => by
    show pkF f n * 32 + f n = pkF g n * 32 + g n
    rw [pkF_congr n (fun j hj => h j (by omega)), h n (by omega)]
theorem tIs_iff {T : Tx} {q x : Nat} (hx : x < 39) : tIs T q (KW x) = true ↔ tKq T q = 1 ∧ tEq T q - q ≤ 7 ∧ tP T q (tEq T q - q) = KP x := by
  obtain ⟨k1, k7, kp, kl⟩ := KW_all ⟨x, hx⟩
  have k1 : 1 ≤ (KW x).length := k1
  have k7 : (KW x).length ≤ 7 := k7
  unfold tIs
  rw [Bool.and_eq_true, beq_iff_eq, wM_iff]
  constructor
  · intro ⟨a, b, c⟩
    refine ⟨a, by omega, ?_⟩
    rw [show tEq T q - q = (KW x).length by omega, tP_pk]
    unfold KP
    refine pkF_congr _ (fun j hj => ?_)
    have e := c j hj
    unfold tD wD
    rw [e]
  · intro ⟨a, b, c⟩
    have hq : q < T.1 := (tKq_1.mp a).1
    have gt := tEq_gt hq
    have al : ∀ j, j < tEq T q - q → 97 ≤ T.2 (q + j) ∧ T.2 (q + j) ≤ 122 := by
      intro j hj
      refine tRn_all (T := T) (T.1 - q) q (q + j) (by omega) ?_
      rw [← tEq_w a]
      omega
    rw [tP_pk] at c
    unfold KP at c
    obtain ⟨d1, d2⟩ := pkF_inj _ _ (fun j hj => by
      obtain ⟨e1, e2, _⟩ := tD_of (al j hj).1 (al j hj).2
      exact ⟨e1, e2⟩) (fun j hj => by
      have hj7 : j < 7 := by omega
      obtain ⟨e1, e2, _⟩ := kl ⟨j, hj7⟩ hj
      exact ⟨e1, e2⟩) c
    refine ⟨a, by omega, fun j hj => ?_⟩
    have hj7 : j < 7 := by omega
    have e3 : (KW x).getD j 0 = Int32.ofNat (wD (KW x) j + 96) := (kl ⟨j, hj7⟩ hj).2.2
    obtain ⟨_, _, _, e4⟩ := tD_of (al j (by omega)).1 (al j (by omega)).2
    rw [e4, e3, d2 j (by omega)]
theorem KP_inj : ∀ x y : Fin 39, KP x.val = KP y.val → x = y := by decide
/-- which known word; -1 -/
def mKn (W : Nat) : Nat → Nat → Int32
  | 0, _ => -1
  | k + 1, j => if KP j = W then Int32.ofNat j else mKn W k (j + 1)
theorem mKn_n (W k j : Nat) : mKn W (k + 1) j = if KP j = W then Int32.ofNat j else mKn W k (j + 1) := rfl
def kn (T : Tx) (q : Nat) : Int32 := if tKq T q = 1 ∧ tEq T q - q ≤ 7 then mKn (tP T q (tEq T q - q)) 39 0 else -1
theorem mKn_rng {W : Nat} : ∀ k j, j + k = 39 → (mKn W k j = -1 ∧ ∀ x, j ≤ x → x < 39 → KP x ≠ W) ∨ ∃ x, x < 39 ∧ mKn W k j = Int32.ofNat x ∧ KP x = W
  | 0, j, h => Or.inl ⟨rfl, fun x h1 h2 => by omega⟩
  | k + 1, j, h => by
    rw [mKn_n]
    by_cases e : KP j = W
    · rw [if_pos e]
      exact Or.inr ⟨j, by omega, rfl, e⟩
    · rw [if_neg e]
      rcases mKn_rng k (j + 1) (by omega) with ⟨a, b⟩ | a
      · refine Or.inl ⟨a, fun x h1 h2 => ?_⟩
        by_cases ex : x = j
        · rw [ex]
          exact e
        · exact b x (by omega) h2
      · exact Or.inr a
theorem kn_cases (T : Tx) (q : Nat) : (kn T q = -1 ∧ ∀ x, x < 39 → ¬ tIs T q (KW x) = true) ∨ ∃ x, x < 39 ∧ kn T q = Int32.ofNat x ∧ tIs T q (KW x) = true := by
  unfold kn
  by_cases h : tKq T q = 1 ∧ tEq T q - q ≤ 7
  · rw [if_pos h]
    rcases mKn_rng (W := tP T q (tEq T q - q)) 39 0 rfl with ⟨a, b⟩ | ⟨x, a, b, c⟩
    · exact Or.inl ⟨a, fun x hx t => b x (Nat.zero_le x) hx ((tIs_iff hx).mp t).2.2.symm⟩
    · exact Or.inr ⟨x, a, b, (tIs_iff a).mpr ⟨h.1, h.2, c.symm⟩⟩
  · rw [if_neg h]
    exact Or.inl ⟨rfl, fun x hx t => h ⟨((tIs_iff hx).mp t).1, ((tIs_iff hx).mp t).2.1⟩⟩
theorem tIs_uniq {T : Tx} {q x y : Nat} (hx : x < 39) (hy : y < 39) (a : tIs T q (KW x) = true) (b : tIs T q (KW y) = true) : x = y := by
  have e := ((tIs_iff hx).mp a).2.2.symm.trans ((tIs_iff hy).mp b).2.2
  exact congrArg Fin.val (KP_inj ⟨x, hx⟩ ⟨y, hy⟩ e)
theorem kn_iff {T : Tx} {q x : Nat} (hx : x < 39) : kn T q = Int32.ofNat x ↔ tIs T q (KW x) = true := by
  rcases kn_cases T q with ⟨a, b⟩ | ⟨y, hy, a, b⟩
  · rw [a]
    exact ⟨fun e => absurd e ((by decide : ∀ z : Fin 39, ¬ (-1 : Int32) = Int32.ofNat z.val) ⟨x, hx⟩), fun e => absurd e (b x hx)⟩
  · rw [a]
    constructor
    · intro e
      rw [← (pN_eq (by omega) (by omega)).mp e]
      exact b
    · intro e
      rw [tIs_uniq hx hy e b]
theorem kn_lit {T : Tx} {q x : Nat} {c : Int32} (hx : x < 39) (hc : c = Int32.ofNat x) : kn T q = c ↔ tIs T q (KW x) = true := by
  rw [hc]
  exact kn_iff hx
theorem dropI {L : List Int32} {i : Nat} (h : i < L.length) : L.drop i = L.getD i 0 :: L.drop (i + 1) := by
  rw [List.drop_eq_getElem_cons h, List.getD_eq_getElem?_getD, List.getElem?_eq_getElem h]
  rfl
section PKn
variable {G : Nat × (Nat → Int32)} {d : Nat} {σ : aH} {T : Tx}
theorem i64_eq {a b : Nat} (ha : a < 34359738368) (hb : b < 34359738368) : Int64.ofNat a = Int64.ofNat b ↔ a = b := by
  constructor
  · intro h
    have e := congrArg Int64.toInt h
    rw [Int64.toInt_ofNat_of_lt (by omega), Int64.toInt_ofNat_of_lt (by omega)] at e
    omega
  · intro h
    rw [h]
theorem s_knLoop {W : Nat} (hW : W < 34359738368) (e25 : σ.2 33 25 = Int64.ofNat W) : ∀ k j, j + k = 39 → Lq G (d + 2) M_69 (21, [some (.ref 33), some (.int (Int32.ofNat j))], [], σ) = oI (mKn W k j) σ
  | 0, j, h => by
    have h : j = 39 := h
    rw [c_Md_knownWord_21, h, if_pos (show (39 : Int32) ≤ Int32.ofNat 39 by decide)]
    rfl
  | k + 1, j, h => by
    have kp : KP j < 34359738368 := (KW_all ⟨j, by omega⟩).2.2.1
    rw [c_Md_knownWord_21, if_neg (pGoL (c := 39) (n := 39) rfl (by omega) (by decide)), s_letters j (by omega), pCL, e25, pN_s, s_knLoop hW e25 k (j + 1) (by omega), mKn_n]
    by_cases e : KP j = W
    · rw [if_pos ((lg_cmp_eq _ _).mpr ((i64_eq kp hW).mpr e)), if_pos e]
    · rw [if_neg (fun h2 => e ((i64_eq kp hW).mp ((lg_cmp_eq _ _).mp h2))), if_neg e]
theorem s_known {s : Nat × Nat} (q : RS σ T s) : Rn G (d + 3) 69 [.ref 33] σ = oI (kn T (tQ T s.2)) σ := by
  obtain ⟨q1, _, _, q4, _, q6⟩ := q
  have q2 := q1.2.1
  have lQ := tQ_le q4
  have lE := tEq_le lQ.2
  rw [e_Md_knownWord, q6.2.1, q6.2.2.2.1]
  have k5 := tKq_lt T (tQ T s.2)
  unfold kn
  by_cases h1 : tKq T (tQ T s.2) = 1
  · rw [if_pos (show Int32.ofNat (tKq T (tQ T s.2)) = 1 by rw [h1]; rfl)]
    by_cases h2 : tEq T (tQ T s.2) - tQ T s.2 ≤ 7
    · rw [if_pos (show Int32.ofNat (tEq T (tQ T s.2) - tQ T s.2) ≤ 7 from (pN_le (b := 7) (by omega) (by decide)).mpr h2), if_pos ⟨h1, h2⟩]
      have hW : tP T (tQ T s.2) (tEq T (tQ T s.2) - tQ T s.2) < 34359738368 := by
        have a := tP_lt (T := T) (q := tQ T s.2) (tEq T (tQ T s.2) - tQ T s.2) (fun j a1 a2 => by
          have al := tRn_all (T := T) (lo := 97) (hi := 122) (T.1 - tQ T s.2) (tQ T s.2) j a1 (by rw [← tEq_w h1]; omega)
          exact (tD_of al.1 al.2).2.1)
        have le : 32 ^ (tEq T (tQ T s.2) - tQ T s.2) ≤ 32 ^ 7 := Nat.pow_le_pow_right (by decide) h2
        have e7 : (32 : Nat) ^ 7 = 34359738368 := by decide
        omega
      exact s_knLoop (d := d) hW (q6.2.2.2.2.2.2 h1 h2) 39 0 rfl
    · rw [if_neg (fun h : Int32.ofNat (tEq T (tQ T s.2) - tQ T s.2) ≤ 7 => h2 ((pN_le (b := 7) (by omega) (by decide)).mp h)), if_neg (fun h => h2 h.2)]
  · rw [if_neg (fun h => h1 ((pEqL (c := 1) (n := 1) rfl (by decide) (by omega)).mp h)), if_neg (fun h => h1 h.1)]
/-! the class finds words in a string -/
def wA (T : Tx) (Q : Nat) : List Int32 → Nat → Nat → Bool → Int32
  | [], w, here, same => if same = true ∧ here = tEq T Q then Int32.ofNat w else -1
  | c :: cs, w, here, same => if c = 32 then (if same = true ∧ here = tEq T Q then Int32.ofNat w else wA T Q cs (w + 1) Q (tKq T Q == 1)) else wA T Q cs w (here + 1) (same && decide (here < tEq T Q) && decide (T.2 here = c))
def bI (b : Bool) : Int32 := if b = true then 1 else 0
theorem s_wordLoop {r : Nat} {S : List Int32} {Q : Nat} (so : StrOk G r S) (q : cB σ T) (hQ : Q ≤ T.1) (e3 : σ.1 1 3 = Int32.ofNat Q) (e4 : σ.1 1 4 = Int32.ofNat (tKq T Q)) (e7 : σ.1 1 7 = Int32.ofNat (tEq T Q)) : ∀ (cs : List Int32) (i w here : Nat) (same : Bool), S.drop i = cs → i + cs.length = S.length → here ≤ Q + i → w ≤ i → Lq G (d + 4) M_25 (25, [some (.ref 1), some (.ref r), some (.int (Int32.ofNat w)), some (.int (Int32.ofNat here)), some (.int (bI same)), some (.int (Int32.ofNat i))], [], σ) = oI (wA T Q cs w here same) σ := by
  obtain ⟨so1, so2, so3, so4, so5⟩ := so
  have q2 := q.2.1
  have k5 := tKq_lt T Q
  have lE := tEq_le hQ
  have nx : ∀ w i, (if σ.1 1 4 = 1 then Lq G (d + 4) M_25 (25, [some (.ref 1), some (.ref r), some (.int (Int32.ofNat (w + 1))), some (.int (σ.1 1 3)), some (.int 1), some (.int (Int32.ofNat (i + 1)))], [], σ) else Lq G (d + 4) M_25 (25, [some (.ref 1), some (.ref r), some (.int (Int32.ofNat (w + 1))), some (.int (σ.1 1 3)), some (.int 0), some (.int (Int32.ofNat (i + 1)))], [], σ)) = Lq G (d + 4) M_25 (25, [some (.ref 1), some (.ref r), some (.int (Int32.ofNat (w + 1))), some (.int (Int32.ofNat Q)), some (.int (bI (tKq T Q == 1))), some (.int (Int32.ofNat (i + 1)))], [], σ) := by
    intro w i
    rw [e3, e4]
    by_cases h : tKq T Q = 1
    · rw [if_pos (by rw [h]; rfl), show (tKq T Q == 1) = true from beq_iff_eq.mpr h]
      rfl
    · rw [if_neg (fun h2 => h ((pEqL (c := 1) (n := 1) rfl (by decide) (by omega)).mp h2)), show (tKq T Q == 1) = false from beq_eq_false_iff_ne.mpr h]
      rfl
  have lst : ∀ w here same i, i = S.length + 1 → Lq G (d + 4) M_25 (25, [some (.ref 1), some (.ref r), some (.int (Int32.ofNat w)), some (.int (Int32.ofNat here)), some (.int (bI same)), some (.int (Int32.ofNat i))], [], σ) = oI (-1) σ := by
    intro w here same i hi
    rw [c_Rh_Tape_wordAmong_25, so3, so1, pCI, if_pos (pGo' (by omega) (by omega))]
  intro cs
  induction cs with
  | nil =>
    intro i w here same hd hl hh hw
    have hl : i + 0 = S.length := hl
    rw [c_Rh_Tape_wordAmong_25, so3, so1, pCI, if_neg (fun h => absurd ((pN_lt (by omega) (by omega)).mp h) (by omega)), so3, so1, pCI, if_pos ((pN_le (by omega) (by omega)).mpr (by omega)), pN_s, pN_s, nx, e7]
    unfold wA
    cases same with
    | false => rw [if_pos (show bI false = 0 from rfl), lst _ _ _ _ (by omega), if_neg (fun h => absurd h.1 (by decide))]
    | true =>
      rw [if_neg (show ¬ bI true = 0 by decide)]
      by_cases h : here = tEq T Q
      · rw [if_pos (by rw [h]), if_pos ⟨rfl, h⟩]
      · rw [if_neg (fun h2 => h ((pN_eq (by omega) (by omega)).mp h2)), lst _ _ _ _ (by omega), if_neg (fun h2 => h h2.2)]
  | cons c cs ih =>
    intro i w here same hd hl hh hw
    rw [List.length_cons] at hl
    have hi : i < S.length := by omega
    have ec : S.getD i 0 = c := by
      rw [dropI hi] at hd
      exact (List.cons.inj hd).1
    have ed : S.drop (i + 1) = cs := by
      rw [dropI hi] at hd
      exact (List.cons.inj hd).2
    have IH := fun w here same h1 h2 => ih (i + 1) w here same ed (by omega) h1 h2
    rw [c_Rh_Tape_wordAmong_25, so3, so1, pCI, if_neg (fun h => absurd ((pN_lt (by omega) (by omega)).mp h) (by omega)), so3, so1, pCI, if_neg (pGo hi (by omega)), so4, so2 _ _ _ hi, pCI, pN_s, pN_s, pN_s, nx, ec, e7, IH (w + 1) Q (tKq T Q == 1) (by omega) (by omega)]
    show _ = oI (if c = 32 then (if same = true ∧ here = tEq T Q then Int32.ofNat w else wA T Q cs (w + 1) Q (tKq T Q == 1)) else wA T Q cs w (here + 1) (same && decide (here < tEq T Q) && decide (T.2 here = c))) σ
    have I0 := IH w (here + 1) false (by omega) (by omega)
    have I1 := IH w (here + 1) true (by omega) (by omega)
    by_cases h32 : c = 32
    · rw [if_pos h32, if_pos h32]
      cases same with
      | false => rw [if_pos (show bI false = 0 from rfl), if_neg (fun h => absurd h.1 (by decide))]
      | true =>
        rw [if_neg (show ¬ bI true = 0 by decide)]
        by_cases h : here = tEq T Q
        · rw [if_pos (by rw [h]), if_pos ⟨rfl, h⟩]
        · rw [if_neg (fun h2 => h ((pN_eq (by omega) (by omega)).mp h2)), if_neg (fun h2 => h h2.2)]
    · rw [if_neg h32, if_neg h32]
      cases same with
      | false =>
        rw [if_pos (show bI false = 0 from rfl)]
        exact I0
      | true =>
        rw [if_neg (show ¬ bI true = 0 by decide)]
        by_cases h : here < tEq T Q
        · rw [if_neg (pGo h (by omega)), s_byteC q (by omega), pCI, tB_in (show here < T.1 by omega), so4, so2 _ _ _ hi, pCI, ec, show decide (here < tEq T Q) = true from decide_eq_true h]
          by_cases h2 : T.2 here = c
          · rw [if_pos h2, show decide (T.2 here = c) = true from decide_eq_true h2]
            exact I1
          · rw [if_neg h2, show decide (T.2 here = c) = false from decide_eq_false h2]
            exact I0
        · rw [if_pos ((pN_le (by omega) (by omega)).mpr (by omega)), show decide (here < tEq T Q) = false from decide_eq_false h]
          exact I0
theorem wA_end {Q j : Nat} : ∀ (w : List Int32) (here : Nat) (same : Bool), (∀ c ∈ w, c ≠ 32) → wA T Q w j here same = if (same && wM T (tEq T Q) w here) = true then Int32.ofNat j else -1
  | [], here, same, _ => by
    show (if same = true ∧ here = tEq T Q then Int32.ofNat j else -1) = if (same && decide (here = tEq T Q)) = true then Int32.ofNat j else -1
    exact pIffI (by rw [Bool.and_eq_true, decide_eq_true_iff])
  | c :: cs, here, same, h => by
    show (if c = 32 then _ else wA T Q cs j (here + 1) (same && decide (here < tEq T Q) && decide (T.2 here = c))) = _
    rw [if_neg (h c (List.mem_cons_self ..)), wA_end cs (here + 1) _ (fun x hx => h x (List.mem_cons_of_mem _ hx)), wM_n, Bool.and_assoc, Bool.and_assoc, Bool.and_assoc]
theorem wA_word {Q j : Nat} {rest : List Int32} : ∀ (w : List Int32) (here : Nat) (same : Bool), (∀ c ∈ w, c ≠ 32) → wA T Q (w ++ 32 :: rest) j here same = if (same && wM T (tEq T Q) w here) = true then Int32.ofNat j else wA T Q rest (j + 1) Q (tKq T Q == 1)
  | [], here, same, _ => by
    show (if (32 : Int32) = 32 then (if same = true ∧ here = tEq T Q then Int32.ofNat j else wA T Q rest (j + 1) Q (tKq T Q == 1)) else _) = if (same && decide (here = tEq T Q)) = true then Int32.ofNat j else _
    rw [if_pos rfl]
    exact pIffI (by rw [Bool.and_eq_true, decide_eq_true_iff])
  | c :: cs, here, same, h => by
    show (if c = 32 then _ else wA T Q (cs ++ 32 :: rest) j (here + 1) (same && decide (here < tEq T Q) && decide (T.2 here = c))) = _
    rw [if_neg (h c (List.mem_cons_self ..)), wA_word cs (here + 1) _ (fun x hx => h x (List.mem_cons_of_mem _ hx)), wM_n, Bool.and_assoc, Bool.and_assoc, Bool.and_assoc]
/-- the first of these words that stands here -/
def mAm (T : Tx) (Q : Nat) : List (List Int32) → Nat → Int32
  | [], _ => -1
  | w :: ws, j => if tIs T Q w = true then Int32.ofNat j else mAm T Q ws (j + 1)
def jn : List (List Int32) → List Int32
  | [] => []
  | [w] => w
  | w :: v :: ws => w ++ 32 :: jn (v :: ws)
theorem wA_jn {Q : Nat} : ∀ (ws : List (List Int32)) (j : Nat), ws ≠ [] → (∀ w ∈ ws, ∀ c ∈ w, c ≠ 32) → wA T Q (jn ws) j Q (tKq T Q == 1) = mAm T Q ws j
  | [], _, h, _ => absurd rfl h
  | [w], j, _, h => by
    show wA T Q w j Q (tKq T Q == 1) = _
    rw [wA_end w Q _ (h w (List.mem_cons_self ..))]
    rfl
  | w :: v :: ws, j, _, h => by
    show wA T Q (w ++ 32 :: jn (v :: ws)) j Q (tKq T Q == 1) = _
    rw [wA_word w Q _ (h w (List.mem_cons_self ..)), wA_jn (v :: ws) (j + 1) (List.cons_ne_nil _ _) (fun x hx => h x (List.mem_cons_of_mem _ hx))]
    rfl
theorem s_among {r : Nat} {ws : List (List Int32)} {s : Nat × Nat} (so : StrOk G r (jn ws)) (hw : ws ≠ []) (h32 : ∀ w ∈ ws, ∀ c ∈ w, c ≠ 32) (q : CS σ T s) : Rn G (d + 5) 25 [.ref 1, .ref r] σ = oI (mAm T (tQ T s.2) ws 0) σ := by
  obtain ⟨q1, _, _, q4, q5⟩ := q
  have lQ := tQ_le q4
  have k5 := tKq_lt T (tQ T s.2)
  have L := fun same => s_wordLoop (d := d) so q1 lQ.2 q5.1 q5.2.1 q5.2.2.1 (jn ws) 0 0 (tQ T s.2) same rfl (Nat.zero_add _) (Nat.le_refl _) (Nat.le_refl 0)
  rw [e_Rh_Tape_wordAmong, q5.1, q5.2.1, ← wA_jn ws 0 hw h32]
  by_cases h : tKq T (tQ T s.2) = 1
  · rw [if_pos (by rw [h]; rfl), show (tKq T (tQ T s.2) == 1) = true from beq_iff_eq.mpr h]
    exact L true
  · rw [if_neg (fun h2 => h ((pEqL (c := 1) (n := 1) rfl (by decide) (by omega)).mp h2)), show (tKq T (tQ T s.2) == 1) = false from beq_eq_false_iff_ne.mpr h]
    exact L false
end PKn
