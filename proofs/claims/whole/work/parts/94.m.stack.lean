/-! ===== what waits in a rule: its order, its bounds ===== -/
def opB (x : Nat) : Nat := if x = 0 then 0 else if x = 1 then 1 else if x = 2 then 2 else if x = 3 then 3 else if x ≤ 5 then 4 else if x ≤ 7 then 5 else 6
def opn : List Nat → Nat
  | [] => 0
  | x :: r => if x = 0 then opn r + 1 else opn r
def nts : List Nat → Nat
  | [] => 0
  | x :: r => if x = 3 then nts r + 1 else 0
def bns : List Nat → Nat
  | [] => 0
  | x :: r => if x = 0 ∨ x = 3 then bns r else bns r + 1
def tpB : List Nat → Nat
  | [] => 0
  | x :: _ => opB x
def hsT : List Nat → Bool
  | [] => false
  | x :: r => if x = 0 then false else (opB x == 4) || hsT r
def okK : List Nat → Prop
  | [] => True
  | x :: r => okK r ∧ x < 10 ∧ (x = 0 → opn r < 6) ∧ (x = 3 → tpB r ≤ 3 ∧ nts r < 6) ∧ (x ≠ 0 → x ≠ 3 → tpB r < opB x)
def poO (b : Nat) : List Nat → List Int32
  | [] => []
  | x :: r => if b ≤ opB x then (-(Int32.ofNat x)) :: poO b r else []
def poR (b : Nat) : List Nat → List Nat
  | [] => []
  | x :: r => if b ≤ opB x then poR b r else x :: r
theorem opB_0 : opB 0 = 0 := rfl
theorem opB_c {x : Nat} (h : x < 10) : (x = 0 ∧ opB x = 0) ∨ (x = 1 ∧ opB x = 1) ∨ (x = 2 ∧ opB x = 2) ∨ (x = 3 ∧ opB x = 3) ∨ ((x = 4 ∨ x = 5) ∧ opB x = 4) ∨ ((x = 6 ∨ x = 7) ∧ opB x = 5) ∨ ((x = 8 ∨ x = 9) ∧ opB x = 6) := by
  unfold opB
  rcases (show x = 0 ∨ x = 1 ∨ x = 2 ∨ x = 3 ∨ x = 4 ∨ x = 5 ∨ x = 6 ∨ x = 7 ∨ x = 8 ∨ x = 9 by omega) with rfl | rfl | rfl | rfl | rfl | rfl | rfl | rfl | rfl | rfl <;> decide
def gL : List Nat → Nat
  | [] => 0
  | x :: r => if x = 0 then 0 else if x = 3 then 3 + nts r else if opB x ≤ 2 then opB x else opB x + 5
def gB : List Nat → Nat
  | [] => 0
  | x :: _ => if x = 0 then 0 else if opB x ≤ 2 then opB x else opB x - 1
theorem gL_le {l : List Nat} (h : okK l) : gL l ≤ 11 := by
  cases l with
  | nil => exact Nat.zero_le _
  | cons x r =>
    obtain ⟨_, h1, _, h3, _⟩ := h
    show (if x = 0 then 0 else if x = 3 then 3 + nts r else if opB x ≤ 2 then opB x else opB x + 5) ≤ 11
    rcases opB_c h1 with ⟨e, eb⟩ | ⟨e, eb⟩ | ⟨e, eb⟩ | ⟨e, eb⟩ | ⟨e, eb⟩ | ⟨e, eb⟩ | ⟨e, eb⟩ 
    · rw [if_pos e]; omega
    · rw [if_neg (by omega), if_neg (by omega), if_pos (by omega)]; omega
    · rw [if_neg (by omega), if_neg (by omega), if_pos (by omega)]; omega
    · rw [if_neg (by omega), if_pos e]
      have := (h3 e).2
      omega
    · rw [if_neg (by omega), if_neg (by omega), if_neg (by omega)]; omega
    · rw [if_neg (by omega), if_neg (by omega), if_neg (by omega)]; omega
    · rw [if_neg (by omega), if_neg (by omega), if_neg (by omega)]; omega
theorem gL_tp {l : List Nat} (h : okK l) : (tpB l = 0 → gL l = 0) ∧ (tpB l = 1 → gL l = 1) ∧ (tpB l = 2 → gL l = 2) ∧ (tpB l = 3 → gL l ≤ 8) ∧ (tpB l = 4 → gL l = 9) ∧ (tpB l = 5 → gL l = 10) := by
  cases l with
  | nil => exact ⟨fun _ => rfl, fun h => absurd h (by decide), fun h => absurd h (by decide), fun h => absurd h (by decide), fun h => absurd h (by decide), fun h => absurd h (by decide)⟩
  | cons x r =>
    obtain ⟨_, h1, _, h3, _⟩ := h
    have e0 : tpB (x :: r) = opB x := rfl
    have e1 : gL (x :: r) = if x = 0 then 0 else if x = 3 then 3 + nts r else if opB x ≤ 2 then opB x else opB x + 5 := rfl
    rw [e0, e1]
    rcases opB_c h1 with ⟨e, eb⟩ | ⟨e, eb⟩ | ⟨e, eb⟩ | ⟨e, eb⟩ | ⟨e, eb⟩ | ⟨e, eb⟩ | ⟨e, eb⟩
    · rw [if_pos e]; omega
    · rw [if_neg (by omega), if_neg (by omega), if_pos (by omega)]; omega
    · rw [if_neg (by omega), if_neg (by omega), if_pos (by omega)]; omega
    · rw [if_neg (by omega), if_pos e]
      have := (h3 e).2
      omega
    · rw [if_neg (by omega), if_neg (by omega), if_neg (by omega)]; omega
    · rw [if_neg (by omega), if_neg (by omega), if_neg (by omega)]; omega
    · rw [if_neg (by omega), if_neg (by omega), if_neg (by omega)]; omega
theorem tpB_le {l : List Nat} (h : okK l) : tpB l ≤ 6 := by
  cases l with
  | nil => exact Nat.zero_le _
  | cons x r =>
    have e0 : tpB (x :: r) = opB x := rfl
    rw [e0]
    rcases opB_c h.2.1 with e | e | e | e | e | e | e <;> omega
theorem nts_0 {l : List Nat} (h : tpB l ≠ 3) : nts l = 0 := by
  cases l with
  | nil => rfl
  | cons x r =>
    show (if x = 3 then nts r + 1 else 0) = 0
    rw [if_neg (fun e => h (by rw [e]; rfl))]
theorem gL_3 {r : List Nat} (h : tpB r = 3) (ho : okK r) : gL r = 2 + nts r := by
  cases r with
  | nil => exact absurd h (by decide)
  | cons x r =>
    have e0 : tpB (x :: r) = opB x := rfl
    rw [e0] at h
    have e3 : x = 3 := by
      rcases opB_c ho.2.1 with e | e | e | e | e | e | e <;> omega
    subst e3
    show 3 + nts r = 2 + (nts r + 1)
    omega
theorem okK_len : ∀ {l : List Nat}, okK l → l.length ≤ 12 * opn l + gL l
  | [], _ => Nat.le_refl 0
  | x :: r, h => by
    have IH := okK_len h.1
    have g11 := gL_le h.1
    obtain ⟨t0, t1, t2, t3, t4, t5⟩ := gL_tp h.1
    obtain ⟨h0, h1, h2, h3, h4⟩ := h
    have e1 : gL (x :: r) = if x = 0 then 0 else if x = 3 then 3 + nts r else if opB x ≤ 2 then opB x else opB x + 5 := rfl
    have e2 : opn (x :: r) = if x = 0 then opn r + 1 else opn r := rfl
    rw [List.length_cons, e1, e2]
    rcases opB_c h1 with ⟨e, eb⟩ | ⟨e, eb⟩ | ⟨e, eb⟩ | ⟨e, eb⟩ | ⟨e, eb⟩ | ⟨e, eb⟩ | ⟨e, eb⟩
    · rw [if_pos e, if_pos e]; omega
    · rw [if_neg (by omega), if_neg (by omega), if_neg (by omega), if_pos (by omega)]
      have := h4 (by omega) (by omega)
      omega
    · rw [if_neg (by omega), if_neg (by omega), if_neg (by omega), if_pos (by omega)]
      have := h4 (by omega) (by omega)
      omega
    · rw [if_neg (by omega), if_neg (by omega), if_pos e]
      have := h3 e
      by_cases e3 : tpB r = 3
      · have := gL_3 e3 h0
        omega
      · omega
    · rw [if_neg (by omega), if_neg (by omega), if_neg (by omega), if_neg (by omega)]
      have := h4 (by omega) (by omega)
      omega
    · rw [if_neg (by omega), if_neg (by omega), if_neg (by omega), if_neg (by omega)]
      have := h4 (by omega) (by omega)
      omega
    · rw [if_neg (by omega), if_neg (by omega), if_neg (by omega), if_neg (by omega)]
      have := h4 (by omega) (by omega)
      omega
theorem gB_tp {l : List Nat} (h : okK l) : gB l = if tpB l ≤ 2 then tpB l else tpB l - 1 := by
  cases l with
  | nil => rfl
  | cons x r =>
    show (if x = 0 then 0 else if opB x ≤ 2 then opB x else opB x - 1) = if opB x ≤ 2 then opB x else opB x - 1
    by_cases e : x = 0
    · subst e
      rfl
    · rw [if_neg e]
theorem okK_bns : ∀ {l : List Nat}, okK l → bns l ≤ 5 * opn l + gB l
  | [], _ => Nat.le_refl 0
  | x :: r, h => by
    have IH := okK_bns h.1
    rw [gB_tp h, show tpB (x :: r) = opB x from rfl]
    rw [gB_tp h.1] at IH
    have t6 := tpB_le h.1
    obtain ⟨h0, h1, h2, h3, h4⟩ := h
    show (if x = 0 ∨ x = 3 then bns r else bns r + 1) ≤ 5 * (if x = 0 then opn r + 1 else opn r) + _
    rcases opB_c h1 with ⟨e, eb⟩ | ⟨e, eb⟩ | ⟨e, eb⟩ | ⟨e, eb⟩ | ⟨e, eb⟩ | ⟨e, eb⟩ | ⟨e, eb⟩ <;> rw [eb]
    · rw [if_pos (Or.inl e), if_pos e]
      split at IH <;> omega
    · rw [if_neg (by omega), if_neg (by omega)]
      have := h4 (by omega) (by omega)
      split at IH <;> split <;> omega
    · rw [if_neg (by omega), if_neg (by omega)]
      have := h4 (by omega) (by omega)
      split at IH <;> split <;> omega
    · rw [if_pos (Or.inr e), if_neg (by omega)]
      have := h3 e
      split at IH <;> split <;> omega
    · rw [if_neg (by omega), if_neg (by omega)]
      have := h4 (by omega) (by omega)
      split at IH <;> split <;> omega
    · rw [if_neg (by omega), if_neg (by omega)]
      have := h4 (by omega) (by omega)
      split at IH <;> split <;> omega
    · rw [if_neg (by omega), if_neg (by omega)]
      have := h4 (by omega) (by omega)
      split at IH <;> split <;> omega
theorem okK_opn : ∀ {l : List Nat}, okK l → opn l ≤ 6
  | [], _ => Nat.zero_le 6
  | x :: r, h => by
    have IH := okK_opn h.1
    show (if x = 0 then opn r + 1 else opn r) ≤ 6
    by_cases e : x = 0
    · rw [if_pos e]
      have := h.2.2.1 e
      omega
    · rw [if_neg e]
      exact IH
theorem okK_84 {l : List Nat} (h : okK l) : l.length ≤ 83 ∧ bns l ≤ 35 := by
  have a := okK_len h
  have b := okK_opn h
  have c := gL_le h
  have d := okK_bns h
  have e : gB l ≤ 5 := by
    rw [gB_tp h]
    have := tpB_le h
    split <;> omega
  omega
theorem poR_ok {b : Nat} : ∀ {l : List Nat}, okK l → okK (poR b l)
  | [], _ => trivial
  | x :: r, h => by
    show okK (if b ≤ opB x then poR b r else x :: r)
    split
    · exact poR_ok h.1
    · exact h
theorem poR_tp {b : Nat} (hb : 0 < b) : ∀ l : List Nat, tpB (poR b l) < b
  | [] => hb
  | x :: r => by
    show tpB (if b ≤ opB x then poR b r else x :: r) < b
    by_cases h : b ≤ opB x
    · rw [if_pos h]
      exact poR_tp hb r
    · rw [if_neg h]
      show opB x < b
      omega
theorem poR_opn {b : Nat} (hb : 0 < b) : ∀ l : List Nat, opn (poR b l) = opn l
  | [] => rfl
  | x :: r => by
    show opn (if b ≤ opB x then poR b r else x :: r) = if x = 0 then opn r + 1 else opn r
    by_cases h : b ≤ opB x
    · rw [if_pos h, poR_opn hb r, if_neg (fun e => by rw [e, opB_0] at h; omega)]
    · rw [if_neg h]
      rfl
theorem poR_len {b : Nat} : ∀ l : List Nat, (poO b l).length + (poR b l).length = l.length
  | [] => rfl
  | x :: r => by
    show (if b ≤ opB x then (-(Int32.ofNat x)) :: poO b r else []).length + (if b ≤ opB x then poR b r else x :: r).length = r.length + 1
    by_cases h : b ≤ opB x
    · rw [if_pos h, if_pos h, List.length_cons, ← poR_len (b := b) r]
      omega
    · rw [if_neg h, if_neg h]
      show 0 + (r.length + 1) = _
      omega
theorem hsT_lo : ∀ {l : List Nat}, okK l → tpB l ≤ 3 → hsT l = false
  | [], _, _ => rfl
  | x :: r, h, ht => by
    have ht : opB x ≤ 3 := ht
    show (if x = 0 then false else (opB x == 4) || hsT r) = false
    obtain ⟨h0, h1, h2, h3, h4⟩ := h
    by_cases e : x = 0
    · rw [if_pos e]
    · rw [if_neg e, show (opB x == 4) = false from beq_eq_false_iff_ne.mpr (by omega), Bool.false_or]
      refine hsT_lo h0 ?_
      by_cases e3 : x = 3
      · exact (h3 e3).1
      · have := h4 e e3
        omega
theorem hsT_po {b : Nat} (hb : 5 ≤ b) : ∀ l : List Nat, hsT (poR b l) = hsT l
  | [] => rfl
  | x :: r => by
    show hsT (if b ≤ opB x then poR b r else x :: r) = if x = 0 then false else (opB x == 4) || hsT r
    by_cases h : b ≤ opB x
    · rw [if_pos h, hsT_po hb r, if_neg (fun e => by rw [e, opB_0] at h; omega), show (opB x == 4) = false from beq_eq_false_iff_ne.mpr (by omega), Bool.false_or]
    · rw [if_neg h]
      rfl
theorem hsT_iff {l : List Nat} (h : okK l) : hsT l = true ↔ tpB (poR 5 l) = 4 := by
  rw [← hsT_po (Nat.le_refl 5) l]
  have t5 := poR_tp (show 0 < 5 by decide) l
  have ok := poR_ok (b := 5) h
  revert t5 ok
  generalize poR 5 l = k
  intro t5 ok
  constructor
  · intro e
    by_cases h3 : tpB k ≤ 3
    · rw [hsT_lo ok h3] at e
      exact absurd e (by decide)
    · omega
  · intro e
    cases k with
    | nil => exact absurd e (by decide)
    | cons x r =>
      have e : opB x = 4 := e
      show (if x = 0 then false else (opB x == 4) || hsT r) = true
      rw [if_neg (fun h0 => by rw [h0, opB_0] at e; omega), e]
      rfl
theorem po_45 : ∀ {l : List Nat}, hsT l = false → poO 4 l = poO 5 l ∧ poR 4 l = poR 5 l
  | [], _ => ⟨rfl, rfl⟩
  | x :: r, h => by
    have h : (if x = 0 then false else (opB x == 4) || hsT r) = false := h
    show (if 4 ≤ opB x then (-(Int32.ofNat x)) :: poO 4 r else []) = (if 5 ≤ opB x then (-(Int32.ofNat x)) :: poO 5 r else []) ∧ (if 4 ≤ opB x then poR 4 r else x :: r) = (if 5 ≤ opB x then poR 5 r else x :: r)
    by_cases e0 : x = 0
    · subst e0
      exact ⟨rfl, rfl⟩
    · rw [if_neg e0, Bool.or_eq_false_iff] at h
      have n4 : opB x ≠ 4 := beq_eq_false_iff_ne.mp h.1
      obtain ⟨a, b⟩ := po_45 h.2
      by_cases h5 : 5 ≤ opB x
      · rw [if_pos h5, if_pos h5, if_pos (by omega), if_pos (by omega), a, b]
        exact ⟨rfl, rfl⟩
      · rw [if_neg h5, if_neg h5, if_neg (by omega), if_neg (by omega)]
        exact ⟨rfl, rfl⟩
theorem poR_nil {l : List Nat} (h : okK l) (h0 : opn l = 0) : poR 1 l = [] := by
  have t := poR_tp (show 0 < 1 by decide) l
  have o := (poR_opn (show 0 < 1 by decide) l).trans h0
  have ok := poR_ok (b := 1) h
  revert t o ok
  generalize poR 1 l = k
  intro t o ok
  cases k with
  | nil => rfl
  | cons x r =>
    have t : opB x < 1 := t
    have o : (if x = 0 then opn r + 1 else opn r) = 0 := o
    have e : x = 0 := by
      rcases opB_c ok.2.1 with e | e | e | e | e | e | e <;> omega
    rw [if_pos e] at o
    omega
theorem poR_open {l : List Nat} (h : okK l) (h0 : 0 < opn l) : ∃ r, poR 1 l = 0 :: r ∧ opn l = opn r + 1 ∧ okK r ∧ bns (poR 1 l) = bns r := by
  have t := poR_tp (show 0 < 1 by decide) l
  have o := poR_opn (show 0 < 1 by decide) l
  have ok := poR_ok (b := 1) h
  revert t o ok
  generalize poR 1 l = k
  intro t o ok
  cases k with
  | nil =>
    have o : 0 = opn l := o
    omega
  | cons x r =>
    have t : opB x < 1 := t
    have e : x = 0 := by
      rcases opB_c ok.2.1 with e | e | e | e | e | e | e <;> omega
    subst e
    exact ⟨r, rfl, o.symm, ok.1, rfl⟩
/-! steps that find their operands -/
def pTo : List Int32 → Nat → Nat → Prop
  | [], n, m => n = m
  | x :: xs, n, m => if 0 ≤ x then x < 10012 ∧ n < 64 ∧ pTo xs (n + 1) m else if x = -3 then 1 ≤ n ∧ pTo xs n m else -9 ≤ x ∧ 2 ≤ n ∧ pTo xs (n - 1) m
theorem pTo_wf : ∀ (xs : List Int32) (n : Nat), pTo xs n 1 → pWf xs n
  | [], _, h => h
  | x :: xs, n, h => by
    have h : if 0 ≤ x then x < 10012 ∧ n < 64 ∧ pTo xs (n + 1) 1 else if x = -3 then 1 ≤ n ∧ pTo xs n 1 else -9 ≤ x ∧ 2 ≤ n ∧ pTo xs (n - 1) 1 := h
    show if 0 ≤ x then x < 10012 ∧ n < 64 ∧ pWf xs (n + 1) else if x = -3 then 1 ≤ n ∧ pWf xs n else -9 ≤ x ∧ 2 ≤ n ∧ pWf xs (n - 1)
    by_cases h1 : 0 ≤ x
    · rw [if_pos h1] at h ⊢
      exact ⟨h.1, h.2.1, pTo_wf xs _ h.2.2⟩
    · rw [if_neg h1] at h ⊢
      by_cases h2 : x = -3
      · rw [if_pos h2] at h ⊢
        exact ⟨h.1, pTo_wf xs _ h.2⟩
      · rw [if_neg h2] at h ⊢
        exact ⟨h.1, h.2.1, pTo_wf xs _ h.2.2⟩
theorem pTo_app : ∀ (xs ys : List Int32) (n k m : Nat), pTo xs n k → pTo ys k m → pTo (xs ++ ys) n m
  | [], ys, n, k, m, h, h2 => by
    have h : n = k := h
    rw [h]
    exact h2
  | x :: xs, ys, n, k, m, h, h2 => by
    have h : if 0 ≤ x then x < 10012 ∧ n < 64 ∧ pTo xs (n + 1) k else if x = -3 then 1 ≤ n ∧ pTo xs n k else -9 ≤ x ∧ 2 ≤ n ∧ pTo xs (n - 1) k := h
    show if 0 ≤ x then x < 10012 ∧ n < 64 ∧ pTo (xs ++ ys) (n + 1) m else if x = -3 then 1 ≤ n ∧ pTo (xs ++ ys) n m else -9 ≤ x ∧ 2 ≤ n ∧ pTo (xs ++ ys) (n - 1) m
    by_cases h1 : 0 ≤ x
    · rw [if_pos h1] at h ⊢
      exact ⟨h.1, h.2.1, pTo_app xs ys _ _ _ h.2.2 h2⟩
    · rw [if_neg h1] at h ⊢
      by_cases h3 : x = -3
      · rw [if_pos h3] at h ⊢
        exact ⟨h.1, pTo_app xs ys _ _ _ h.2 h2⟩
      · rw [if_neg h3] at h ⊢
        exact ⟨h.1, h.2.1, pTo_app xs ys _ _ _ h.2.2 h2⟩
theorem neg_all : ∀ x : Fin 10, 0 < x.val → ¬ (0 : Int32) ≤ -(Int32.ofNat x.val) ∧ (-(Int32.ofNat x.val) = -3 ↔ x.val = 3) ∧ -9 ≤ -(Int32.ofNat x.val) := by decide
theorem pTo_po {b : Nat} (hb : 0 < b) : ∀ {l : List Nat}, okK l → pTo (poO b l) (bns l + 1) (bns (poR b l) + 1)
  | [], _ => rfl
  | x :: r, h => by
    show pTo (if b ≤ opB x then (-(Int32.ofNat x)) :: poO b r else []) (bns (x :: r) + 1) (bns (if b ≤ opB x then poR b r else x :: r) + 1)
    by_cases h1 : b ≤ opB x
    · have x0 : x ≠ 0 := fun e => by
        rw [e, opB_0] at h1
        omega
      obtain ⟨n1, n2, n3⟩ := neg_all ⟨x, h.2.1⟩ (by show 0 < x; omega)
      have IH := pTo_po hb h.1
      rw [if_pos h1, if_pos h1]
      show if (0 : Int32) ≤ -(Int32.ofNat x) then _ else if -(Int32.ofNat x) = -3 then 1 ≤ bns (x :: r) + 1 ∧ pTo (poO b r) (bns (x :: r) + 1) (bns (poR b r) + 1) else -9 ≤ -(Int32.ofNat x) ∧ 2 ≤ bns (x :: r) + 1 ∧ pTo (poO b r) (bns (x :: r) + 1 - 1) (bns (poR b r) + 1)
      rw [if_neg n1]
      have e2 : bns (x :: r) = if x = 0 ∨ x = 3 then bns r else bns r + 1 := rfl
      by_cases h3 : x = 3
      · rw [if_pos (n2.mpr h3), e2, if_pos (Or.inr h3)]
        exact ⟨by omega, IH⟩
      · rw [if_neg (fun e => h3 (n2.mp e)), e2, if_neg (fun e => e.elim x0 h3)]
        exact ⟨n3, by omega, IH⟩
    · rw [if_neg h1, if_neg h1]
      rfl
/-! the reference's code of steps -/
def eL : List Int32 → List Int32
  | [] => []
  | x :: xs => if 0 ≤ x then (if x < 10000 then 1 :: x :: eL xs else 2 :: (x - 10000) :: eL xs) else rOp x :: eL xs
theorem eL_app : ∀ xs ys : List Int32, eL (xs ++ ys) = eL xs ++ eL ys
  | [], _ => rfl
  | x :: xs, ys => by
    show (if 0 ≤ x then (if x < 10000 then 1 :: x :: eL (xs ++ ys) else 2 :: (x - 10000) :: eL (xs ++ ys)) else rOp x :: eL (xs ++ ys)) = (if 0 ≤ x then (if x < 10000 then 1 :: x :: eL xs else 2 :: (x - 10000) :: eL xs) else rOp x :: eL xs) ++ eL ys
    rw [eL_app xs ys]
    repeat' split
    all_goals rfl
theorem eL_enc : ∀ xs : List Int32, rEnc xs = eL xs ++ [0]
  | [] => rfl
  | x :: xs => by
    show (if 0 ≤ x then (if x < 10000 then 1 :: x :: rEnc xs else 2 :: (x - 10000) :: rEnc xs) else rOp x :: rEnc xs) = (if 0 ≤ x then (if x < 10000 then 1 :: x :: eL xs else 2 :: (x - 10000) :: eL xs) else rOp x :: eL xs) ++ [0]
    rw [eL_enc xs]
    repeat' split
    all_goals rfl
def cdO (x : Nat) : Int32 := if x = 0 then 12 else rOp (-(Int32.ofNat x))
theorem eL_neg {x : Nat} (h : x < 10) (h0 : 0 < x) : eL [-(Int32.ofNat x)] = [cdO x] := by
  show (if (0 : Int32) ≤ -(Int32.ofNat x) then _ else rOp (-(Int32.ofNat x)) :: eL []) = _
  rw [if_neg (neg_all ⟨x, h⟩ h0).1]
  unfold cdO
  rw [if_neg (by omega)]
  rfl
theorem pSeg_app {f : Nat → Int32} : ∀ (xs ys : List Int32) (a : Nat), pSeg f a (xs ++ ys) ↔ pSeg f a xs ∧ pSeg f (a + xs.length) ys
  | [], ys, a => ⟨fun h => ⟨trivial, h⟩, fun h => h.2⟩
  | x :: xs, ys, a => by
    show (f a = x ∧ pSeg f (a + 1) (xs ++ ys)) ↔ (f a = x ∧ pSeg f (a + 1) xs) ∧ pSeg f (a + (xs.length + 1)) ys
    rw [pSeg_app xs ys (a + 1), show a + 1 + xs.length = a + (xs.length + 1) by omega]
    exact ⟨fun h => ⟨⟨h.1, h.2.1⟩, h.2.2⟩, fun h => ⟨h.1.1, h.1.2, h.2⟩⟩
theorem pSeg_congr {f g : Nat → Int32} : ∀ (xs : List Int32) (a : Nat), (∀ i, a ≤ i → i < a + xs.length → g i = f i) → pSeg f a xs → pSeg g a xs
  | [], _, _, _ => trivial
  | x :: xs, a, h, q => ⟨(h a (Nat.le_refl a) (by rw [List.length_cons]; omega)).trans q.1, pSeg_congr xs (a + 1) (fun i h1 h2 => h i (by omega) (by rw [List.length_cons]; omega)) q.2⟩
/-- a stack in a row, its top behind -/
def stk (c : Nat → Int32) (f : Nat → Int32) : List Nat → Prop
  | [] => True
  | x :: r => f r.length = c x ∧ stk c f r
theorem stk_congr {c f g : Nat → Int32} : ∀ (l : List Nat), (∀ i, i < l.length → g i = f i) → stk c f l → stk c g l
  | [], _, _ => trivial
  | x :: r, h, q => ⟨(h r.length (by rw [List.length_cons]; omega)).trans q.1, stk_congr r (fun i hi => h i (by rw [List.length_cons]; omega)) q.2⟩
/-- which depths hold a test -/
def tRs (f : Nat → Int32) : List Nat → Prop
  | [] => True
  | x :: r => if x = 0 then f (opn r + 1) = bI (hsT r) ∧ tRs f r else tRs f r
theorem tRs_congr {f g : Nat → Int32} : ∀ (l : List Nat), (∀ i, i ≤ opn l → g i = f i) → tRs f l → tRs g l
  | [], _, _ => trivial
  | x :: r, h, q => by
    have eo : opn (x :: r) = if x = 0 then opn r + 1 else opn r := rfl
    rw [eo] at h
    have q : if x = 0 then f (opn r + 1) = bI (hsT r) ∧ tRs f r else tRs f r := q
    show if x = 0 then g (opn r + 1) = bI (hsT r) ∧ tRs g r else tRs g r
    by_cases e : x = 0
    · rw [if_pos e] at h q ⊢
      exact ⟨(h _ (Nat.le_refl _)).trans q.1, tRs_congr r (fun i hi => h i (by omega)) q.2⟩
    · rw [if_neg e] at h q ⊢
      exact tRs_congr r h q
theorem tRs_po {f : Nat → Int32} {b : Nat} (hb : 0 < b) : ∀ {l : List Nat}, tRs f l → tRs f (poR b l)
  | [], _ => trivial
  | x :: r, q => by
    show tRs f (if b ≤ opB x then poR b r else x :: r)
    by_cases h : b ≤ opB x
    · rw [if_pos h]
      have q : if x = 0 then f (opn r + 1) = bI (hsT r) ∧ tRs f r else tRs f r := q
      rw [if_neg (fun e => by rw [e, opB_0] at h; omega)] at q
      exact tRs_po hb q
    · rw [if_neg h]
      exact q
