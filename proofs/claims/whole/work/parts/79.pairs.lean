/-! ===== sums over couples ===== -/
def pS (h : Nat → Int32) : Nat → Int32
  | 0 => 0
  | n + 1 => pS h n + h n
theorem pS_succ (h : Nat → Int32) (n : Nat) : pS h (n + 1) = pS h n + h n := rfl
theorem pS_congr {h g : Nat → Int32} : ∀ n, (∀ i, i < n → h i = g i) → pS h n = pS g n
  | 0, _ => rfl
  | n + 1, q => by
    rw [pS_succ, pS_succ, pS_congr n (fun i hi => q i (by omega)), q n (by omega)]
theorem pS_add {h g : Nat → Int32} : ∀ n, pS (fun i => h i + g i) n = pS h n + pS g n
  | 0 => by
    show (0 : Int32) = 0 + 0
    rw [Int32.zero_add]
  | n + 1 => by
    rw [pS_succ, pS_succ, pS_succ, pS_add n]
    ac_rfl
theorem pS_zero : ∀ n, pS (fun _ => 0) n = 0
  | 0 => rfl
  | n + 1 => by
    rw [pS_succ, pS_zero n, Int32.zero_add]
theorem pFo_sum {h : Nat → Int32} : ∀ (k i : Nat) (a : Int32), pFo (fun j a => a + h j) k i a = a + pS (fun t => h (i + t)) k
  | 0, _, a => (Int32.add_zero a).symm
  | k + 1, i, a => by
    rw [pFo_snoc, pFo_sum k i a, pS_succ, Int32.add_assoc]
theorem pFo_sum0 {h : Nat → Int32} (n : Nat) (a : Int32) : pFo (fun j a => a + h j) n 0 a = a + pS h n := by
  rw [pFo_sum]
  rw [pS_congr (g := h) n (fun i _ => by rw [Nat.zero_add])]
/-- couples, the first first -/
def pCc (g : Nat → Nat → Int32) (n : Nat) : Int32 := pS (fun i => pS (fun t => g i (i + 1 + t)) (n - (i + 1))) n
theorem pCc_succ (g : Nat → Nat → Int32) (n : Nat) : pCc g (n + 1) = pCc g n + pS (fun i => g i n) n := by
  show pS (fun i => pS (fun t => g i (i + 1 + t)) (n + 1 - (i + 1))) n + pS (fun t => g n (n + 1 + t)) (n + 1 - (n + 1)) = _
  rw [Nat.sub_self, show pS (fun t => g n (n + 1 + t)) 0 = 0 from rfl, Int32.add_zero]
  unfold pCc
  rw [← pS_add]
  refine pS_congr n fun i hi => ?_
  rw [show n + 1 - (i + 1) = n - (i + 1) + 1 by omega, pS_succ, show i + 1 + (n - (i + 1)) = n by omega]
/-- couples of a list, the later first -/
def pCl (f : Nat → Nat → Int32) (L : List Nat) : Int32 := pS (fun a => pS (fun b => f (L.getD a 0) (L.getD b 0)) a) L.length
theorem pGetD_app {L : List Nat} {x i : Nat} (h : i < L.length) : (L ++ [x]).getD i 0 = L.getD i 0 := by
  rw [List.getD_eq_getElem?_getD, List.getD_eq_getElem?_getD, List.getElem?_append_left h]
theorem pGetD_last {L : List Nat} {x : Nat} : (L ++ [x]).getD L.length 0 = x := by
  rw [List.getD_eq_getElem?_getD, List.getElem?_append_right (Nat.le_refl _), Nat.sub_self]
  rfl
theorem pCl_snoc (f : Nat → Nat → Int32) (L : List Nat) (x : Nat) : pCl f (L ++ [x]) = pCl f L + pS (fun b => f x (L.getD b 0)) L.length := by
  unfold pCl
  have e1 : pS (fun a => pS (fun b => f ((L ++ [x]).getD a 0) ((L ++ [x]).getD b 0)) a) L.length = pS (fun a => pS (fun b => f (L.getD a 0) (L.getD b 0)) a) L.length := pS_congr L.length fun a ha => by
    rw [pGetD_app ha]
    exact pS_congr a fun b hb => by rw [pGetD_app (show b < L.length by omega)]
  have e2 : pS (fun b => f x ((L ++ [x]).getD b 0)) L.length = pS (fun b => f x (L.getD b 0)) L.length := pS_congr L.length fun b hb => by rw [pGetD_app hb]
  rw [List.length_append, show [x].length = 1 from rfl, pS_succ, pGetD_last, e1, e2]
/-- a sum over a list of those that P, as one over all -/
theorem pS_filter (P : Nat → Prop) {_ : DecidablePred P} (h : Nat → Int32) : ∀ n, pS (fun b => h (((List.range n).filter fun k => decide (P k)).getD b 0)) ((List.range n).filter fun k => decide (P k)).length = pS (fun i => if P i then h i else 0) n
  | 0 => rfl
  | n + 1 => by
    by_cases q : P n
    · have el : ((List.range (n + 1)).filter fun k => decide (P k)) = ((List.range n).filter fun k => decide (P k)) ++ [n] := by
        rw [List.range_succ, List.filter_append]
        simp [q]
      have e2 : pS (fun b => h ((((List.range n).filter fun k => decide (P k)) ++ [n]).getD b 0)) ((List.range n).filter fun k => decide (P k)).length = pS (fun b => h (((List.range n).filter fun k => decide (P k)).getD b 0)) ((List.range n).filter fun k => decide (P k)).length := pS_congr _ fun b hb => by rw [pGetD_app hb]
      rw [el, List.length_append, show [n].length = 1 from rfl, pS_succ, pGetD_last, pS_succ, if_pos q, ← pS_filter P h n, e2]
    · have el : ((List.range (n + 1)).filter fun k => decide (P k)) = ((List.range n).filter fun k => decide (P k)) := by
        rw [List.range_succ, List.filter_append]
        simp [q]
      rw [el, pS_succ, if_neg q, Int32.add_zero, pS_filter P h n]
theorem pCouples (P : Nat → Prop) {_ : DecidablePred P} {f : Nat → Nat → Int32} {g : Nat → Nat → Int32} (hg : ∀ i j, g i j = if P i ∧ P j then f j i else 0) : ∀ n, pCc g n = pCl f ((List.range n).filter fun k => decide (P k))
  | 0 => rfl
  | n + 1 => by
    rw [pCc_succ, pCouples P hg n]
    by_cases q : P n
    · have el : ((List.range (n + 1)).filter fun k => decide (P k)) = ((List.range n).filter fun k => decide (P k)) ++ [n] := by
        rw [List.range_succ, List.filter_append]
        simp [q]
      rw [el, pCl_snoc, pS_filter P (fun b => f n b) n]
      rw [pS_congr (g := fun i => if P i then f n i else 0) n (fun i _ => by
        rw [hg]
        by_cases qi : P i
        · rw [if_pos ⟨qi, q⟩, if_pos qi]
        · rw [if_neg (fun h => qi h.1), if_neg qi])]
    · have el : ((List.range (n + 1)).filter fun k => decide (P k)) = ((List.range n).filter fun k => decide (P k)) := by
        rw [List.range_succ, List.filter_append]
        simp [q]
      rw [el, pS_congr (g := fun _ => 0) n (fun i _ => by rw [hg, if_neg (fun h => q h.2)]), pS_zero, Int32.add_zero]
