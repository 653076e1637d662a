/-! ===== what the soundness theorem asks of the tables, checked (by wip/gen/emit_checks.py) ===== -/
theorem zAll {α β : Type} {f : α → β → Bool} : ∀ {l : List α} {p : List β}, l.length ≤ p.length → ((l.zip p).all fun q => f q.1 q.2) = true → ∀ a ∈ l, ∃ b, f a b = true
  | [], _, _, _, a, h => by cases h
  | x :: l, [], hl, _, _, _ => by simp at hl
  | x :: l, y :: p, hl, ha, a, h => by
    simp only [List.zip_cons_cons, List.all_cons, Bool.and_eq_true] at ha
    rcases List.mem_cons.mp h with rfl | h
    · exact ⟨y, ha.1⟩
    · exact zAll (by simpa using hl) ha.2 a h
theorem tWS_good : ∀ w ∈ tWS, goodWord w = true := fun _ h => (List.mem_filter.mp h).2
def tkCk (i : Nat) (k : aKd) : Bool := match k with
  | .inl (t, _) => decide (i < 64) && decide (t < 4)
  | .inr (.inl (ci, fl)) => decide (i < 64) && match tCl[ci]? with
    | some (_, T, n) => decide (n = fl.length) && (List.range n).all fun k => match fl[k]? with
      | some (.inr tag) => decide (parseFieldDescriptor (T k).2.2.1 = some (aFt tag))
      | _ => true
    | none => false
  | .inr (.inr (.inl _)) => true
  | .inr (.inr (.inr (ci, nm, _))) => (tCl[ci]?).isNone && decide (nm = tcN ci)
set_option maxRecDepth 100000 in
theorem tkCk_all : ((List.range tkL.length).all fun i => match tkL[i]? with
  | some k => tkCk i k
  | none => true) = true := by decide +kernel
theorem tkd_cases {sl : Nat} {xs : Nat → Int32} {i : Nat} {K : aKd} (h : tkd sl xs i = K) : (tkL[i]? = some K ∧ tkCk i K = true) ∨ K = .inr (.inr (.inl (0, sl, xs))) := by
  unfold tkd at h
  cases hk : tkL[i]? with
  | none => rw [hk] at h; exact Or.inr h.symm
  | some k =>
    rw [hk] at h
    have h : k = K := h
    subst h
    have := List.all_eq_true.mp tkCk_all i (List.mem_range.mpr (List.getElem?_eq_some_iff.mp hk).1)
    rw [hk] at this
    exact Or.inl ⟨rfl, this⟩
theorem tk_w1 {sl : Nat} {xs : Nat → Int32} : ∀ i t n, tkd sl xs i = .inl (t, n) → i < 64 ∧ t < 4 := by
  intro i t n h
  rcases tkd_cases h with ⟨_, h⟩ | h
  · have := (Bool.and_eq_true _ _).mp h
    exact ⟨of_decide_eq_true this.1, of_decide_eq_true this.2⟩
  · cases h
theorem tk_w2 {sl : Nat} {xs : Nat → Int32} : ∀ i ci fl, tkd sl xs i = .inr (.inl (ci, fl)) → i < 64 ∧ ∃ (C : String) (T : u_T), tCl[ci]? = some (C, T, fl.length) ∧ ∀ k tag, fl[k]? = some (.inr tag) → parseFieldDescriptor (T k).2.2.1 = some (aFt tag) := by
  intro i ci fl h
  rcases tkd_cases h with ⟨_, h⟩ | h
  · have h1 := (Bool.and_eq_true _ _).mp h
    refine ⟨of_decide_eq_true h1.1, ?_⟩
    have h2 := h1.2
    split at h2
    · rename_i C T n hc
      have h3 := (Bool.and_eq_true _ _).mp h2
      have hn := of_decide_eq_true h3.1
      subst hn
      refine ⟨C, T, hc, fun k tag hk => ?_⟩
      have h4 := List.all_eq_true.mp h3.2 k (List.mem_range.mpr (List.getElem?_eq_some_iff.mp hk).1)
      rw [hk] at h4
      exact of_decide_eq_true h4
    · cases h2
  · cases h
theorem tk_w3 {sl : Nat} {xs : Nat → Int32} : ∀ i ci nm vs, tkd sl xs i = .inr (.inr (.inr (ci, nm, vs))) → tCl[ci]? = none := by
  intro i ci nm vs h
  rcases tkd_cases h with ⟨_, h⟩ | h
  · exact Option.isNone_iff_eq_none.mp ((Bool.and_eq_true _ _).mp h).1
  · cases h
theorem tk_kN {sl : Nat} {xs : Nat → Int32} : ∀ i ci nm vs, tkd sl xs i = .inr (.inr (.inr (ci, nm, vs))) → nm = tcN ci := by
  intro i ci nm vs h
  rcases tkd_cases h with ⟨_, h⟩ | h
  · exact of_decide_eq_true ((Bool.and_eq_true _ _).mp h).2
  · cases h
set_option maxRecDepth 100000 in
theorem uK0 : ∀ k, k < 17 → wAt (([359, 361, 363, 365, 367, 369, 371, 373, 375, 377, 379, 381, 383, 385, 387, 389, 391] : List Nat).getD k 0) (u_lay "RubberHall" uT0 k) = true := by decide +kernel
theorem uW0 : ∀ w ∈ u_ws "RubberHall" uT0 17, w ∈ tWS := by
  intro w hw
  obtain ⟨k, hk, rfl⟩ := List.mem_map.mp hw
  exact wAt_mem (uK0 k (List.mem_range.mp hk))
set_option maxRecDepth 100000 in
theorem uK1 : ∀ k, k < 8 → wAt (([161, 163, 165, 167, 169, 171, 173, 175] : List Nat).getD k 0) (u_lay "RubberHall$Tape" uT1 k) = true := by decide +kernel
theorem uW1 : ∀ w ∈ u_ws "RubberHall$Tape" uT1 8, w ∈ tWS := by
  intro w hw
  obtain ⟨k, hk, rfl⟩ := List.mem_map.mp hw
  exact wAt_mem (uK1 k (List.mem_range.mp hk))
set_option maxRecDepth 100000 in
theorem uK2 : ∀ k, k < 4 → wAt (([190, 192, 194, 196] : List Nat).getD k 0) (u_lay "RubberHall$House" uT2 k) = true := by decide +kernel
theorem uW2 : ∀ w ∈ u_ws "RubberHall$House" uT2 4, w ∈ tWS := by
  intro w hw
  obtain ⟨k, hk, rfl⟩ := List.mem_map.mp hw
  exact wAt_mem (uK2 k (List.mem_range.mp hk))
set_option maxRecDepth 100000 in
theorem uK3 : ∀ k, k < 6 → wAt (([212, 214, 216, 218, 220, 222] : List Nat).getD k 0) (u_lay "RubberHall$RuleReader" uT3 k) = true := by decide +kernel
theorem uW3 : ∀ w ∈ u_ws "RubberHall$RuleReader" uT3 6, w ∈ tWS := by
  intro w hw
  obtain ⟨k, hk, rfl⟩ := List.mem_map.mp hw
  exact wAt_mem (uK3 k (List.mem_range.mp hk))
set_option maxRecDepth 100000 in
theorem uK4 : ∀ k, k < 2 → wAt (([236, 238] : List Nat).getD k 0) (u_lay "RubberHall$Sheets" uT4 k) = true := by decide +kernel
theorem uW4 : ∀ w ∈ u_ws "RubberHall$Sheets" uT4 2, w ∈ tWS := by
  intro w hw
  obtain ⟨k, hk, rfl⟩ := List.mem_map.mp hw
  exact wAt_mem (uK4 k (List.mem_range.mp hk))
set_option maxRecDepth 100000 in
theorem uK5 : ∀ k, k < 7 → wAt (([255, 257, 259, 261, 263, 265, 267] : List Nat).getD k 0) (u_lay "RubberHall$Sieve" uT5 k) = true := by decide +kernel
theorem uW5 : ∀ w ∈ u_ws "RubberHall$Sieve" uT5 7, w ∈ tWS := by
  intro w hw
  obtain ⟨k, hk, rfl⟩ := List.mem_map.mp hw
  exact wAt_mem (uK5 k (List.mem_range.mp hk))
set_option maxRecDepth 100000 in
theorem uK6 : ∀ k, k < 17 → wAt (([294, 296, 298, 300, 302, 304, 306, 308, 310, 312, 314, 316, 318, 320, 322, 324, 326] : List Nat).getD k 0) (u_lay "RubberHall$Head" uT6 k) = true := by decide +kernel
theorem uW6 : ∀ w ∈ u_ws "RubberHall$Head" uT6 17, w ∈ tWS := by
  intro w hw
  obtain ⟨k, hk, rfl⟩ := List.mem_map.mp hw
  exact wAt_mem (uK6 k (List.mem_range.mp hk))
set_option maxRecDepth 100000 in
theorem uK7 : ∀ k, k < 2 → wAt (([337, 339] : List Nat).getD k 0) (u_lay "RubberHall$Ways" uT7 k) = true := by decide +kernel
theorem uW7 : ∀ w ∈ u_ws "RubberHall$Ways" uT7 2, w ∈ tWS := by
  intro w hw
  obtain ⟨k, hk, rfl⟩ := List.mem_map.mp hw
  exact wAt_mem (uK7 k (List.mem_range.mp hk))
set_option maxRecDepth 100000 in
theorem uK8 : ∀ k, k < 58 → wAt (([1451, 1453, 1455, 1457, 1459, 1461, 1463, 1465, 1467, 1469, 1471, 1473, 1475, 1477, 1479, 1481, 1483, 1485, 1487, 1489, 1491, 1493, 1495, 1497, 1499, 1501, 1503, 1505, 1507, 1509, 1511, 1513, 1515, 1517, 1519, 1521, 1523, 1525, 1527, 1529, 1531, 1533, 1535, 1537, 1539, 1541, 1543, 1545, 1547, 1549, 1551, 1553, 1555, 1557, 1559, 1561, 1563, 1565] : List Nat).getD k 0) (u_lay "RubberHallModel" uT8 k) = true := by decide +kernel
theorem uW8 : ∀ w ∈ u_ws "RubberHallModel" uT8 58, w ∈ tWS := by
  intro w hw
  obtain ⟨k, hk, rfl⟩ := List.mem_map.mp hw
  exact wAt_mem (uK8 k (List.mem_range.mp hk))
theorem tk_w4 : ∀ (ci : Nat) (C : String) (T : u_T) (n : Nat), tCl[ci]? = some (C, T, n) → (∃ ty0 : Nat → FieldType, ∀ k, k < n → parseFieldDescriptor (T k).2.2.1 = some (ty0 k)) ∧ (∀ a, a < n → ∀ b, b < n → a ≠ b → (T a).2.1 ≠ (T b).2.1) ∧ ∀ w ∈ u_ws C T n, w ∈ tWS := by
  intro ci C T n h
  match ci, h with
  | 0, h => cases h; exact ⟨⟨uY0, uP0⟩, uN0, uW0⟩
  | 1, h => cases h; exact ⟨⟨uY1, uP1⟩, uN1, uW1⟩
  | 2, h => cases h; exact ⟨⟨uY2, uP2⟩, uN2, uW2⟩
  | 3, h => cases h; exact ⟨⟨uY3, uP3⟩, uN3, uW3⟩
  | 4, h => cases h; exact ⟨⟨uY4, uP4⟩, uN4, uW4⟩
  | 5, h => cases h; exact ⟨⟨uY5, uP5⟩, uN5, uW5⟩
  | 6, h => cases h; exact ⟨⟨uY6, uP6⟩, uN6, uW6⟩
  | 7, h => cases h; exact ⟨⟨uY7, uP7⟩, uN7, uW7⟩
  | 8, h => cases h; exact ⟨⟨uY8, uP8⟩, uN8, uW8⟩
  | k + 9, h => simp [tCl] at h
theorem tk_cN : ∀ ci q, tCl[ci]? = some q → q.1 = tcN ci := by
  intro ci q h
  match ci, h with
  | 0, h => cases h; rfl
  | 1, h => cases h; rfl
  | 2, h => cases h; rfl
  | 3, h => cases h; rfl
  | 4, h => cases h; rfl
  | 5, h => cases h; rfl
  | 6, h => cases h; rfl
  | 7, h => cases h; rfl
  | 8, h => cases h; rfl
  | k + 9, h => simp [tCl] at h
theorem aWs_D {N B0 : Nat} {dA : Nat → ClassId} {ad : Nat → Nat} {kd : Nat → aKd} (hi : ∀ i j, i < N → j < N → ad i = ad j → i = j) (hg : ∀ i, i < N → B0 ≤ ad i) (σ : aH) : va_D (aA B0) (aWs N dA ad kd σ) := by
  have key : ∀ (k : Nat) (q : Nat × va_E), (aWs N dA ad kd σ)[k]? = some q → k < N ∧ q.1 = ad k := by
    intro k q hk
    have hlt : k < N := by
      have := (List.getElem?_eq_some_iff.mp hk).1
      simpa [aWs] using this
    rw [aWs_get hlt] at hk
    cases hk
    exact ⟨hlt, rfl⟩
  refine ⟨fun i j x y hx hy hxy => ?_, fun k q hk => ?_⟩
  · obtain ⟨h1, h2⟩ := key i x hx
    obtain ⟨h3, h4⟩ := key j y hy
    exact hi i j h1 h3 (by rw [← h2, ← h4]; exact hxy)
  · obtain ⟨h1, h2⟩ := key k q hk
    rw [h2]
    exact hg k h1
def tfP : List Nat := [342, 343, 344, 345, 346, 347, 348, 349, 350, 351, 352, 353, 354, 355, 356, 358, 143, 149, 234, 357, 254, 293, 151, 142, 144, 159, 148, 160, 150, 155, 158, 1399, 1400, 1401, 1402, 1403, 1404, 1406, 1407, 1410, 1427, 1428, 1429, 1430, 1431, 1432, 1433, 1434, 1435, 1436, 1437, 1438, 1439, 1440, 1443, 1444, 1445, 1446, 1447, 1448, 1449, 1450, 1393, 1408, 1411, 1412, 1414, 1418, 1416, 1417, 1413, 1415, 1409, 1419, 1420, 1421, 1422, 1423, 1424, 1425, 1426, 1394, 1395, 1396, 1397, 1398, 1405, 1441, 1442, 2014, 2013, 145, 152, 189, 185, 186, 187, 188, 206, 207, 208, 209, 210, 211, 147, 154, 157, 146, 153, 233, 156, 231, 235, 247, 248, 249, 250, 251, 252, 253, 232, 288, 289, 290, 291, 278, 279, 280, 281, 276, 277, 282, 283, 284, 285, 286, 287, 292, 335, 336]
def aFokB (q : Nat × Nat × Nat × Nat) (i : Nat) : Bool := match tCl[q.2.2.1]? with
  | some (_, T, n) => decide (q.2.2.2 < n) && wAt i (Cond.fieldLink (tcn q.1) q.2.1 (T q.2.2.2).1 (T q.2.2.2).2.1 (T q.2.2.2).2.2.1)
  | none => wAt i (Cond.fieldLink (tcn q.1) q.2.1 (tfn q.2.2.1 q.2.2.2).1 (tfn q.2.2.1 q.2.2.2).2.1 (tfn q.2.2.1 q.2.2.2).2.2)
set_option maxRecDepth 100000 in
theorem tf_ck : ((tfL.zip tfP).all fun q => aFokB q.1 q.2) = true := by decide +kernel
theorem tf_ok : ∀ q ∈ tfL, aFok tCl tcn tfn tWS q := by
  intro q hq
  obtain ⟨i, hi⟩ := zAll (f := aFokB) (by decide +kernel) tf_ck q hq
  unfold aFokB at hi
  unfold aFok
  split at hi
  · have h := (Bool.and_eq_true _ _).mp hi
    exact ⟨of_decide_eq_true h.1, wAt_mem h.2⟩
  · exact wAt_mem hi
def tpP : List Nat := [358, 143, 234, 357, 144, 159, 148, 160, 150, 155, 158, 1410, 1447, 1393, 1408, 1411, 1412, 1414, 1418, 1416, 1417, 1413, 1415, 1409, 1419, 1420, 1421, 1422, 1423, 1424, 1425, 1426, 1394, 1395, 1396, 1397, 1398, 1405, 1441, 1442, 188, 207, 208, 209, 210, 211, 235, 253, 288, 289, 290, 291, 278, 279, 280, 281, 276, 277, 282, 283, 284, 285, 286, 287, 292, 336]
def aPokB (q : Nat × Nat × Nat × Nat) (i : Nat) : Bool := match tCl[q.2.2.1]? with
  | some (_, T, n) => decide (q.2.2.2 < n) && (wAt i (Cond.fieldLink (tcn q.1) q.2.1 (T q.2.2.2).1 (T q.2.2.2).2.1 (T q.2.2.2).2.2.1) && decide ((T q.2.2.2).2.2.2 = false))
  | none => false
set_option maxRecDepth 100000 in
theorem tp_ck : ((tpL.zip tpP).all fun q => aPokB q.1 q.2) = true := by decide +kernel
theorem tp_ok : ∀ q ∈ tpL, aPok tCl tcn tWS q := by
  intro q hq
  obtain ⟨i, hi⟩ := zAll (f := aPokB) (by decide +kernel) tp_ck q hq
  unfold aPokB at hi
  unfold aPok
  split at hi
  · have h := (Bool.and_eq_true _ _).mp hi
    have h2 := (Bool.and_eq_true _ _).mp h.2
    exact ⟨of_decide_eq_true h.1, wAt_mem h2.1, of_decide_eq_true h2.2⟩
  · cases hi
def tgP : List (Nat × Nat) := [(835, 3), (1119, 4), (912, 5), (611, 6), (725, 1), (433, 0), (435, 2)]
def aGokB (q : Nat × Nat × Value) (i : Nat × Nat) : Bool := match tstt[i.2]? with
  | some (C, n, d, v) => decide (v = q.2.2) && wAt i.1 (Cond.fieldLink (tcn q.1) q.2.1 C n d)
  | none => false
set_option maxRecDepth 100000 in
theorem tg_ck : ((tgL.zip tgP).all fun q => aGokB q.1 q.2) = true := by decide +kernel
theorem tg_ok : ∀ q ∈ tgL, ∃ C n d, (C, n, d, q.2.2) ∈ tstt ∧ Cond.fieldLink (tcn q.1) q.2.1 C n d ∈ tWS := by
  intro q hq
  obtain ⟨i, hi⟩ := zAll (f := aGokB) (by decide +kernel) tg_ck q hq
  unfold aGokB at hi
  split at hi
  · rename_i C n d v hs
    have h := (Bool.and_eq_true _ _).mp hi
    have hv := of_decide_eq_true h.1
    subst hv
    exact ⟨C, n, d, List.mem_of_getElem? hs, wAt_mem h.2⟩
  · cases hi
def tkP : List Nat := [1163, 1179, 465, 1148, 1338, 28, 29, 19, 20, 21, 22, 23, 24, 25, 26, 27, 1071, 453, 470, 471, 1739, 1763, 1764, 1785, 1798, 1879, 11, 12, 13, 14, 15, 16, 17, 18, 0, 1, 2, 3, 4, 5, 6, 7, 8, 9, 10]
def aKokB (q : Nat × Nat × Value) (i : Nat) : Bool := match q.2.2 with
  | .int x => wAt i (Cond.constant (tcn q.1) q.2.1 x)
  | .long x => wAt i (Cond.constantLong (tcn q.1) q.2.1 x)
  | .ref a => match tstrs[i]? with
    | some (c, k, _, b) => decide (c = tcn q.1 ∧ k = q.2.1 ∧ b = a)
    | none => false
  | _ => false
set_option maxRecDepth 100000 in
theorem tk_ck : ((tkkL.zip tkP).all fun q => aKokB q.1 q.2) = true := by decide +kernel
theorem tk_ok : ∀ q ∈ tkkL, aKok tcn tstrs tWS q := by
  intro q hq
  obtain ⟨i, hi⟩ := zAll (f := aKokB) (by decide +kernel) tk_ck q hq
  obtain ⟨a, b, v⟩ := q
  unfold aKok
  cases v with
  | int x => exact wAt_mem hi
  | long x => exact wAt_mem hi
  | ref x =>
    have hi : (match tstrs[i]? with
      | some (c, k, _, y) => decide (c = tcn a ∧ k = b ∧ y = x)
      | none => false) = true := hi
    split at hi
    · rename_i c k tx y hs
      obtain ⟨e1, e2, e3⟩ := of_decide_eq_true hi
      subst e1; subst e2; subst e3
      exact ⟨tx, List.mem_of_getElem? hs⟩
    · cases hi
  | float x => cases hi
  | double x => cases hi
  | null => cases hi
  | retAddr x => cases hi
def tyP : List Nat := [866, 498]
set_option maxRecDepth 100000 in
theorem ty_ck : ((tyyL.zip tyP).all fun q => wAt q.2 (Cond.methodLink (tcn q.1.1) q.1.2 arraycopyName)) = true := by decide +kernel
set_option maxRecDepth 100000 in
theorem ty_c2 : wAt 500 (Cond.native arraycopyName) = true ∧ wAt 499 (Cond.static arraycopyName) = true ∧ wAt 125 (Cond.initialized "java/lang/System") = true := by decide +kernel
theorem ty_ok : ∀ q ∈ tyyL, Cond.methodLink (tcn q.1) q.2 arraycopyName ∈ tWS ∧ Cond.native arraycopyName ∈ tWS ∧ Cond.static arraycopyName ∈ tWS ∧ Cond.initialized "java/lang/System" ∈ tWS := by
  intro q hq
  obtain ⟨i, hi⟩ := zAll (f := fun (a : Nat × Nat) i => wAt i (Cond.methodLink (tcn a.1) a.2 arraycopyName)) (by decide +kernel) ty_ck q hq
  exact ⟨wAt_mem hi, wAt_mem ty_c2.1, wAt_mem ty_c2.2.1, wAt_mem ty_c2.2.2⟩
def tmP : List (Nat × Nat × Nat × Nat) := [(397, 105, 395, 396), (401, 106, 399, 400), (1577, 113, 1575, 1576), (1581, 113, 1580, 45), (507, 104, 506, 0), (512, 105, 510, 511), (515, 105, 514, 0), (581, 106, 579, 580), (585, 106, 583, 584), (589, 106, 588, 5), (593, 106, 592, 6), (597, 106, 596, 7), (602, 118, 600, 601), (606, 118, 604, 605), (610, 118, 608, 609), (616, 118, 614, 615), (620, 118, 618, 619), (623, 119, 622, 0), (626, 119, 625, 0), (489, 120, 488, 0), (630, 120, 629, 0), (633, 119, 632, 0), (685, 124, 684, 0), (689, 107, 687, 688), (478, 105, 477, 0), (695, 106, 693, 694), (700, 118, 698, 699), (703, 119, 702, 0), (706, 118, 705, 0), (709, 122, 708, 0), (720, 106, 718, 719), (724, 107, 722, 723), (416, 105, 415, 0), (730, 124, 729, 0), (735, 106, 733, 734), (739, 106, 737, 738), (745, 106, 743, 744), (749, 107, 747, 748), (757, 106, 755, 756), (761, 106, 759, 760), (765, 124, 764, 0), (772, 106, 770, 771), (779, 124, 778, 0), (790, 108, 788, 789), (794, 108, 793, 8), (798, 106, 796, 797), (802, 108, 801, 9), (807, 108, 806, 10), (813, 106, 811, 812), (816, 108, 815, 0), (822, 107, 820, 821), (826, 108, 825, 11), (830, 108, 829, 12), (834, 108, 833, 13), (842, 106, 840, 841), (848, 106, 846, 847), (853, 107, 851, 852), (857, 105, 856, 14), (861, 105, 860, 15), (865, 107, 863, 864), (1585, 113, 1583, 1584), (1589, 113, 1588, 46), (1593, 113, 1592, 47), (1597, 113, 1596, 48), (1601, 113, 1600, 49), (1604, 113, 1603, 0), (1607, 113, 1606, 0), (1611, 113, 1610, 50), (1615, 113, 1614, 51), (1619, 113, 1618, 52), (1622, 113, 1621, 0), (1625, 113, 1624, 0), (1629, 113, 1628, 53), (1633, 113, 1632, 54), (1637, 113, 1636, 55), (1641, 113, 1640, 56), (1645, 113, 1644, 57), (1649, 113, 1648, 58), (1653, 113, 1652, 59), (1657, 113, 1656, 60), (1661, 113, 1660, 61), (1665, 113, 1664, 62), (1669, 113, 1668, 63), (1673, 113, 1672, 64), (1677, 113, 1676, 65), (1681, 113, 1680, 66), (1685, 113, 1684, 67), (1689, 113, 1688, 68), (1693, 113, 1692, 69), (1697, 113, 1696, 70), (1701, 113, 1700, 71), (1704, 113, 1703, 0), (1708, 113, 1707, 72), (1573, 113, 1571, 1572), (869, 104, 868, 0), (873, 105, 871, 872), (876, 126, 875, 0), (883, 126, 882, 0), (413, 107, 411, 412), (888, 106, 886, 887), (892, 109, 890, 891), (896, 109, 894, 895), (900, 126, 899, 0), (904, 107, 902, 903), (911, 109, 910, 0), (918, 106, 916, 917), (1712, 113, 1710, 1711), (1716, 113, 1715, 73), (1720, 113, 1719, 74), (1724, 113, 1723, 75), (405, 105, 403, 404), (1728, 113, 1726, 1727), (927, 104, 926, 0), (932, 105, 930, 931), (935, 105, 934, 0), (954, 110, 952, 953), (958, 110, 957, 16), (964, 109, 962, 963), (968, 107, 966, 967), (432, 107, 430, 431), (975, 110, 974, 17), (979, 110, 977, 978), (983, 110, 981, 982), (988, 110, 987, 18), (992, 110, 991, 19), (996, 107, 994, 995), (1000, 107, 998, 999), (1003, 110, 1002, 0), (1007, 110, 1005, 1006), (1886, 113, 1884, 1885), (1735, 113, 1734, 0), (1890, 113, 1889, 97), (1855, 113, 1854, 92), (1859, 113, 1858, 93), (1863, 113, 1862, 94), (1851, 113, 1850, 91), (1866, 113, 1865, 0), (1870, 113, 1869, 95), (1010, 104, 1009, 0), (1014, 105, 1012, 1013), (1894, 113, 1892, 1893), (1020, 104, 1019, 0), (1024, 105, 1022, 1023), (1898, 113, 1896, 1897), (1027, 104, 1026, 0), (1031, 105, 1029, 1030), (1902, 113, 1900, 1901), (1034, 104, 1033, 0), (1038, 105, 1036, 1037), (1906, 113, 1904, 1905), (1042, 104, 1041, 0), (1046, 105, 1044, 1045), (464, 105, 463, 0), (1732, 113, 1730, 1731), (1738, 113, 1737, 0), (1050, 104, 1049, 0), (1054, 105, 1052, 1053), (1058, 105, 1057, 20), (424, 111, 422, 423), (428, 111, 426, 427), (440, 111, 438, 439), (444, 111, 442, 443), (448, 111, 446, 447), (457, 111, 455, 456), (461, 111, 460, 1), (469, 111, 468, 2), (1743, 113, 1741, 1742), (1747, 113, 1746, 76), (1751, 113, 1750, 77), (1755, 113, 1754, 78), (1759, 113, 1758, 79), (1762, 113, 1761, 0), (1768, 113, 1767, 80), (1062, 104, 1061, 0), (1066, 105, 1064, 1065), (1070, 111, 1068, 1069), (452, 111, 450, 451), (475, 111, 473, 474), (1772, 113, 1770, 1771), (1776, 113, 1775, 81), (1780, 113, 1779, 82), (1784, 113, 1783, 83), (1074, 104, 1073, 0), (1078, 105, 1076, 1077), (1082, 105, 1081, 21), (1086, 111, 1084, 1085), (1091, 111, 1090, 22), (1096, 111, 1095, 23), (1789, 113, 1787, 1788), (1793, 113, 1792, 84), (1797, 113, 1796, 85), (1802, 113, 1801, 86), (1099, 104, 1098, 0), (1103, 105, 1101, 1102), (1818, 113, 1816, 1817), (1822, 113, 1821, 88), (1107, 104, 1106, 0), (1111, 105, 1109, 1110), (1115, 109, 1113, 1114), (1118, 109, 1117, 0), (1826, 113, 1824, 1825), (1830, 113, 1829, 89), (1834, 113, 1833, 90), (1837, 113, 1836, 0), (1840, 113, 1839, 0), (1843, 113, 1842, 0), (1125, 104, 1124, 0), (1129, 105, 1127, 1128), (1136, 110, 1134, 1135), (1847, 113, 1845, 1846), (1139, 104, 1138, 0), (1143, 105, 1141, 1142), (1147, 105, 1146, 24), (1151, 105, 1150, 0), (1154, 105, 1153, 0), (1874, 113, 1872, 1873), (1878, 113, 1877, 96), (1882, 113, 1881, 0), (1158, 104, 1157, 0), (1162, 105, 1160, 1161), (1167, 110, 1165, 1166), (1171, 105, 1170, 25), (1175, 105, 1174, 26), (1178, 105, 1177, 0), (1182, 120, 1181, 0), (1910, 113, 1908, 1909), (1914, 113, 1913, 98), (1918, 113, 1917, 99), (1922, 113, 1921, 100), (1925, 113, 1924, 0), (1185, 104, 1184, 0), (1189, 105, 1187, 1188), (1193, 105, 1192, 27), (1197, 105, 1196, 28), (486, 105, 485, 0), (1201, 105, 1200, 29), (1205, 105, 1204, 30), (1208, 105, 1207, 0), (1929, 113, 1927, 1928), (1933, 113, 1932, 101), (1936, 113, 1935, 0), (1940, 113, 1939, 102), (1943, 113, 1942, 0), (1211, 104, 1210, 0), (1215, 105, 1213, 1214), (1219, 105, 1218, 31), (1947, 113, 1945, 1946), (1222, 104, 1221, 0), (1226, 105, 1224, 1225), (1230, 112, 1228, 1229), (1234, 105, 1233, 32), (1238, 112, 1236, 1237), (1243, 112, 1241, 1242), (1246, 112, 1245, 0), (1251, 112, 1249, 1250), (1256, 112, 1255, 33), (1259, 112, 1258, 0), (1262, 112, 1261, 0), (1951, 113, 1949, 1950), (1266, 104, 1265, 0), (1270, 105, 1268, 1269), (1274, 105, 1273, 34), (1278, 105, 1277, 35), (1955, 113, 1953, 1954), (1281, 104, 1280, 0), (1285, 105, 1283, 1284), (1288, 105, 1287, 0), (1291, 120, 1290, 0), (1959, 113, 1957, 1958), (1962, 113, 1961, 0), (1294, 104, 1293, 0), (1298, 105, 1296, 1297), (1966, 113, 1964, 1965), (1301, 104, 1300, 0), (1305, 105, 1303, 1304), (420, 105, 419, 0), (482, 105, 481, 3), (1970, 113, 1968, 1969), (1974, 113, 1973, 103), (409, 105, 407, 408), (1978, 113, 1976, 1977), (1308, 104, 1307, 0), (1312, 105, 1310, 1311), (1982, 113, 1980, 1981), (1315, 104, 1314, 0), (1319, 105, 1317, 1318), (1325, 111, 1323, 1324), (1806, 113, 1804, 1805), (1810, 113, 1809, 87), (1329, 104, 1328, 0), (1333, 105, 1331, 1332), (1337, 105, 1336, 36), (1342, 105, 1341, 37), (1814, 113, 1812, 1813), (1345, 104, 1344, 0), (1349, 105, 1347, 1348), (1353, 105, 1352, 38), (1357, 105, 1356, 39), (1362, 105, 1361, 40), (1986, 113, 1984, 1985), (1366, 104, 1365, 0), (1370, 105, 1368, 1369), (1374, 105, 1373, 41), (1378, 105, 1377, 42), (1382, 105, 1381, 43), (1386, 105, 1385, 44), (1990, 113, 1988, 1989), (493, 105, 491, 492), (497, 109, 495, 496), (1994, 113, 1992, 1993), (504, 105, 502, 503), (1998, 113, 1996, 1997)]
/-- what is known of a method without a table of its own -/
def aMokB (mid : Nat) (p : Nat × Nat × Nat × Nat) : Bool := match tmt mid with
  | some M => match M.2.2.2.2 with
    | none => wAt p.1 (Cond.code (tyv mid) (tcb mid) M.2.1 M.1) && (wAt p.2.1 (Cond.initialized (tyv mid).cls) && (decide ((tyv mid).cls ≠ "java/lang/invoke/MethodHandle" ∧ (tyv mid).cls ≠ "java/lang/invoke/VarHandle" ∧ M.2.1 ≤ 60) && (match (tmi mid).2.2.2 with
      | none => decide ((parseMethodDescriptor (tyv mid).desc).map (fun d => d.parameters.length) = some (tmi mid).1) && wAt p.2.2.1 (Cond.static (tyv mid))
      | some ci => decide ((parseMethodDescriptor (tyv mid).desc).map (fun d => d.parameters.length) = some ((tmi mid).1 - 1)) && (decide (tcN ci = (tyv mid).cls) && (wAt p.2.2.1 (Cond.instanceMethod (tyv mid)) && wAt p.2.2.2 (Cond.selects (tyv mid).cls (tyv mid) (tyv mid)))))))
    | some _ => true
  | none => true
set_option maxRecDepth 100000 in
theorem tm_ck0 : ((List.range' 0 26).all fun i => match tmP[i]? with
  | some p => aMokB i p
  | none => false) = true := by decide +kernel
set_option maxRecDepth 100000 in
theorem tm_ck1 : ((List.range' 26 26).all fun i => match tmP[i]? with
  | some p => aMokB i p
  | none => false) = true := by decide +kernel
set_option maxRecDepth 100000 in
theorem tm_ck2 : ((List.range' 52 26).all fun i => match tmP[i]? with
  | some p => aMokB i p
  | none => false) = true := by decide +kernel
set_option maxRecDepth 100000 in
theorem tm_ck3 : ((List.range' 78 26).all fun i => match tmP[i]? with
  | some p => aMokB i p
  | none => false) = true := by decide +kernel
set_option maxRecDepth 100000 in
theorem tm_ck4 : ((List.range' 104 26).all fun i => match tmP[i]? with
  | some p => aMokB i p
  | none => false) = true := by decide +kernel
set_option maxRecDepth 100000 in
theorem tm_ck5 : ((List.range' 130 26).all fun i => match tmP[i]? with
  | some p => aMokB i p
  | none => false) = true := by decide +kernel
set_option maxRecDepth 100000 in
theorem tm_ck6 : ((List.range' 156 26).all fun i => match tmP[i]? with
  | some p => aMokB i p
  | none => false) = true := by decide +kernel
set_option maxRecDepth 100000 in
theorem tm_ck7 : ((List.range' 182 26).all fun i => match tmP[i]? with
  | some p => aMokB i p
  | none => false) = true := by decide +kernel
set_option maxRecDepth 100000 in
theorem tm_ck8 : ((List.range' 208 26).all fun i => match tmP[i]? with
  | some p => aMokB i p
  | none => false) = true := by decide +kernel
set_option maxRecDepth 100000 in
theorem tm_ck9 : ((List.range' 234 26).all fun i => match tmP[i]? with
  | some p => aMokB i p
  | none => false) = true := by decide +kernel
set_option maxRecDepth 100000 in
theorem tm_ck10 : ((List.range' 260 26).all fun i => match tmP[i]? with
  | some p => aMokB i p
  | none => false) = true := by decide +kernel
set_option maxRecDepth 100000 in
theorem tm_ck11 : ((List.range' 286 26).all fun i => match tmP[i]? with
  | some p => aMokB i p
  | none => false) = true := by decide +kernel
theorem tm_ck (i : Nat) (h : i < 312) : ∃ p, aMokB i p = true := by
  have key : (match tmP[i]? with
    | some p => aMokB i p
    | none => false) = true := by
    rcases (show (0 ≤ i ∧ i < 26) ∨ (26 ≤ i ∧ i < 52) ∨ (52 ≤ i ∧ i < 78) ∨ (78 ≤ i ∧ i < 104) ∨ (104 ≤ i ∧ i < 130) ∨ (130 ≤ i ∧ i < 156) ∨ (156 ≤ i ∧ i < 182) ∨ (182 ≤ i ∧ i < 208) ∨ (208 ≤ i ∧ i < 234) ∨ (234 ≤ i ∧ i < 260) ∨ (260 ≤ i ∧ i < 286) ∨ (286 ≤ i ∧ i < 312) by omega) with h | h | h | h | h | h | h | h | h | h | h | h
    · exact List.all_eq_true.mp tm_ck0 i (List.mem_range'_1.mpr ⟨h.1, by omega⟩)
    · exact List.all_eq_true.mp tm_ck1 i (List.mem_range'_1.mpr ⟨h.1, by omega⟩)
    · exact List.all_eq_true.mp tm_ck2 i (List.mem_range'_1.mpr ⟨h.1, by omega⟩)
    · exact List.all_eq_true.mp tm_ck3 i (List.mem_range'_1.mpr ⟨h.1, by omega⟩)
    · exact List.all_eq_true.mp tm_ck4 i (List.mem_range'_1.mpr ⟨h.1, by omega⟩)
    · exact List.all_eq_true.mp tm_ck5 i (List.mem_range'_1.mpr ⟨h.1, by omega⟩)
    · exact List.all_eq_true.mp tm_ck6 i (List.mem_range'_1.mpr ⟨h.1, by omega⟩)
    · exact List.all_eq_true.mp tm_ck7 i (List.mem_range'_1.mpr ⟨h.1, by omega⟩)
    · exact List.all_eq_true.mp tm_ck8 i (List.mem_range'_1.mpr ⟨h.1, by omega⟩)
    · exact List.all_eq_true.mp tm_ck9 i (List.mem_range'_1.mpr ⟨h.1, by omega⟩)
    · exact List.all_eq_true.mp tm_ck10 i (List.mem_range'_1.mpr ⟨h.1, by omega⟩)
    · exact List.all_eq_true.mp tm_ck11 i (List.mem_range'_1.mpr ⟨h.1, by omega⟩)
  split at key
  · exact ⟨_, key⟩
  · cases key
theorem tm_ok {i : Nat} (h : i < 312) {M : aMt} (hM : tmt i = some M) (hh : M.2.2.2.2 = none) : (∃ n, aMok tyv tcb tmt tWS i n ∧ (((tmi i).2.2.2 = none ∧ n = (tmi i).1 ∧ Cond.static (tyv i) ∈ tWS) ∨ (∃ ci, (tmi i).2.2.2 = some ci ∧ n = (tmi i).1 - 1 ∧ tcN ci = (tyv i).cls ∧ Cond.instanceMethod (tyv i) ∈ tWS ∧ Cond.selects (tyv i).cls (tyv i) (tyv i) ∈ tWS))) := by
  obtain ⟨p, hp⟩ := tm_ck i h
  unfold aMokB at hp
  rw [hM] at hp
  dsimp only at hp
  rw [hh] at hp
  dsimp only at hp
  have h1 := (Bool.and_eq_true _ _).mp hp
  have h2 := (Bool.and_eq_true _ _).mp h1.2
  have h3 := (Bool.and_eq_true _ _).mp h2.2
  obtain ⟨e1, e2, e3⟩ := of_decide_eq_true h3.1
  have h4 := h3.2
  split at h4
  · rename_i hrc
    have h5 := (Bool.and_eq_true _ _).mp h4
    exact ⟨_, ⟨M, hM, wAt_mem h1.1, wAt_mem h2.1, e1, e2, of_decide_eq_true h5.1, e3⟩, Or.inl ⟨hrc, rfl, wAt_mem h5.2⟩⟩
  · rename_i ci hrc
    have h5 := (Bool.and_eq_true _ _).mp h4
    have h6 := (Bool.and_eq_true _ _).mp h5.2
    have h7 := (Bool.and_eq_true _ _).mp h6.2
    exact ⟨_, ⟨M, hM, wAt_mem h1.1, wAt_mem h2.1, e1, e2, of_decide_eq_true h5.1, e3⟩, Or.inr ⟨ci, hrc, rfl, of_decide_eq_true h6.1, wAt_mem h7.1, wAt_mem h7.2⟩⟩
def aLkB (q : Nat × Nat × Nat) (i : Bool × Nat) : Bool := match i.1 with
  | true => wAt i.2 (Cond.methodLink (tcn q.1) q.2.1 (tyv q.2.2))
  | false => match tnst[i.2]? with
    | some (c, k, y, _) => decide (c = tcn q.1 ∧ k = q.2.1 ∧ y = tyv q.2.2)
    | none => false
theorem aLkB_ok {q : Nat × Nat × Nat} {i : Bool × Nat} (h : aLkB q i = true) : aLk tcn tyv tnst tWS q := by
  unfold aLkB at h
  split at h
  · exact Or.inl (wAt_mem h)
  · split at h
    · rename_i c k y host hs
      obtain ⟨e1, e2, e3⟩ := of_decide_eq_true h
      subst e1; subst e2; subst e3
      exact Or.inr ⟨host, List.mem_of_getElem? hs⟩
    · cases h
def tcP : List (Bool × Nat) := [(true, 513), (true, 683), (true, 874), (true, 933), (true, 483), (true, 1047), (true, 1116), (true, 1121), (true, 476), (true, 1263), (true, 1286), (true, 1289), (true, 1149), (true, 1152), (true, 1155), (true, 487), (true, 1176), (true, 1180), (true, 484), (true, 1206), (true, 1602), (true, 1605), (true, 1623), (true, 1620), (true, 1702), (true, 1733), (true, 1736), (true, 1760), (true, 1835), (true, 1838), (true, 1841), (true, 1864), (true, 1880), (true, 1923), (true, 1934), (true, 1941), (true, 1960), (true, 701), (true, 621), (true, 707), (true, 704), (true, 628), (true, 624), (true, 627), (true, 631), (true, 728), (true, 763), (true, 777), (false, 2), (false, 0), (true, 814), (false, 4), (false, 3), (true, 881), (true, 898), (true, 909), (false, 6), (false, 5), (false, 7), (false, 8), (true, 1001), (false, 1), (false, 9), (true, 1244), (true, 1257), (true, 1260), (false, 10)]
set_option maxRecDepth 100000 in
theorem tc_ck : ((tcL.zip tcP).all fun q => aLkB q.1 q.2 && (decide (q.1.2.2 < 312) && ((tmi q.1.2.2).2.2.2.isNone && match tmt q.1.2.2 with
  | some M => M.2.2.2.2.isNone
  | none => false))) = true := by decide +kernel
theorem tc_ok : ∀ q ∈ tcL, aLk tcn tyv tnst tWS q ∧ aMok tyv tcb tmt tWS q.2.2 (tmi q.2.2).1 ∧ Cond.static (tyv q.2.2) ∈ tWS := by
  intro q hq
  obtain ⟨i, hi⟩ := zAll (f := fun (a : Nat × Nat × Nat) (i : Bool × Nat) => aLkB a i && (decide (a.2.2 < 312) && ((tmi a.2.2).2.2.2.isNone && match tmt a.2.2 with
    | some M => M.2.2.2.2.isNone
    | none => false))) (by decide +kernel) tc_ck q hq
  have h1 := (Bool.and_eq_true _ _).mp hi
  have h2 := (Bool.and_eq_true _ _).mp h1.2
  have h3 := (Bool.and_eq_true _ _).mp h2.2
  have h4 := h3.2
  split at h4
  · rename_i M hM
    obtain ⟨n, hm, hk⟩ := tm_ok (of_decide_eq_true h2.1) hM (Option.isNone_iff_eq_none.mp h4)
    rcases hk with hk | hk
    · obtain ⟨e1, e2, e3⟩ := hk
      subst e2
      exact ⟨aLkB_ok h1.1, hm, e3⟩
    · obtain ⟨ci, e1, -⟩ := hk
      rw [e1] at h3
      cases h3.1
  · cases h4
def tvP : List (Bool × Nat) := [(true, 398), (true, 578), (true, 854), (true, 862), (true, 410), (true, 951), (true, 1015), (true, 1016), (true, 1017), (true, 1039), (true, 1055), (true, 421), (true, 1059), (true, 1067), (true, 449), (true, 472), (true, 1079), (true, 1083), (true, 858), (true, 1104), (true, 1112), (true, 1122), (true, 1130), (true, 1131), (true, 1132), (true, 1133), (true, 1144), (true, 1164), (true, 1168), (true, 1190), (true, 1194), (true, 1198), (true, 1216), (true, 1227), (true, 1231), (true, 1240), (true, 1248), (true, 1271), (true, 417), (true, 1320), (true, 1321), (true, 1322), (true, 1334), (true, 1339), (true, 1350), (true, 1358), (true, 1359), (true, 1371), (true, 1379), (true, 1383), (true, 494), (true, 1172), (true, 1202), (true, 1235), (true, 1275), (true, 479), (true, 1354), (true, 1363), (true, 1375), (true, 582), (true, 586), (true, 590), (true, 594), (true, 599), (true, 696), (true, 697), (true, 740), (true, 741), (true, 736), (true, 742), (true, 758), (true, 849), (true, 1578), (true, 1598), (true, 1608), (true, 1594), (true, 1630), (true, 1616), (true, 1638), (true, 1642), (true, 1634), (true, 1646), (true, 1654), (true, 1670), (true, 1626), (true, 1650), (true, 1658), (true, 1662), (true, 1666), (true, 1678), (true, 1694), (true, 1686), (true, 1674), (true, 1690), (true, 1682), (true, 1698), (true, 1590), (true, 1586), (true, 1612), (true, 1705), (true, 1717), (true, 1721), (true, 1713), (true, 1756), (true, 1765), (true, 1752), (true, 1773), (true, 1781), (true, 1794), (true, 1777), (true, 1799), (true, 1748), (true, 1744), (true, 1790), (true, 1807), (true, 1819), (true, 1827), (true, 1831), (true, 1848), (true, 1860), (true, 1856), (true, 1867), (true, 1852), (true, 1875), (true, 1887), (true, 1915), (true, 1919), (true, 1911), (true, 1930), (true, 1937), (true, 1971), (true, 509), (true, 870), (true, 929), (true, 1011), (true, 1021), (true, 1028), (true, 1035), (true, 1043), (true, 1051), (true, 1063), (true, 1075), (true, 1100), (true, 1108), (true, 1126), (true, 1140), (true, 1159), (true, 1186), (true, 1212), (true, 1223), (true, 1267), (true, 1282), (true, 1295), (true, 1302), (true, 1309), (true, 1316), (true, 1330), (true, 1346), (true, 1367), (true, 394), (true, 1574), (true, 1582), (true, 1570), (true, 1709), (true, 402), (true, 1725), (true, 1883), (true, 1891), (true, 1895), (true, 1899), (true, 1903), (true, 1729), (true, 1740), (true, 1769), (true, 1786), (true, 1815), (true, 1823), (true, 1844), (true, 1871), (true, 1907), (true, 1926), (true, 1944), (true, 1948), (true, 1952), (true, 1956), (true, 1963), (true, 1967), (true, 406), (true, 1975), (true, 1979), (true, 1803), (true, 1811), (true, 1983), (true, 1987), (true, 490), (true, 1991), (true, 501), (true, 1995), (true, 617), (true, 607), (true, 613), (true, 603), (true, 686), (true, 692), (true, 717), (true, 721), (true, 727), (true, 781), (true, 746), (true, 787), (true, 845), (true, 850), (true, 732), (true, 754), (true, 769), (true, 775), (true, 969), (true, 970), (true, 791), (true, 799), (true, 823), (true, 844), (true, 827), (true, 795), (true, 803), (true, 804), (true, 810), (true, 818), (true, 819), (true, 839), (true, 831), (true, 878), (true, 879), (true, 880), (true, 884), (true, 885), (true, 889), (true, 908), (true, 915), (true, 906), (true, 921), (true, 924), (true, 901), (true, 905), (true, 893), (true, 955), (true, 972), (true, 985), (true, 961), (true, 1004), (true, 960), (true, 965), (true, 976), (true, 980), (true, 984), (true, 989), (true, 993), (true, 997), (true, 425), (true, 437), (true, 445), (true, 429), (true, 441), (true, 1326), (true, 454), (true, 466), (true, 458), (true, 1087), (true, 1088), (true, 1093), (true, 1092), (true, 1252), (true, 1253)]
set_option maxRecDepth 100000 in
theorem tv_ck : ((tvL.zip tvP).all fun q => aLkB q.1 q.2 && (decide (q.1.2.2 < 312) && ((tmi q.1.2.2).2.2.2.isSome && match tmt q.1.2.2 with
  | some M => M.2.2.2.2.isNone
  | none => false))) = true := by decide +kernel
theorem tv_ok : ∀ q ∈ tvL, aLk tcn tyv tnst tWS q ∧ aMok tyv tcb tmt tWS q.2.2 ((tmi q.2.2).1 - 1) ∧ (Cond.instanceMethod (tyv q.2.2) ∈ tWS ∧ Cond.selects (tyv q.2.2).cls (tyv q.2.2) (tyv q.2.2) ∈ tWS) ∧ ∃ ci, (tmi q.2.2).2.2.2 = some ci ∧ tcN ci = (tyv q.2.2).cls := by
  intro q hq
  obtain ⟨i, hi⟩ := zAll (f := fun (a : Nat × Nat × Nat) (i : Bool × Nat) => aLkB a i && (decide (a.2.2 < 312) && ((tmi a.2.2).2.2.2.isSome && match tmt a.2.2 with
    | some M => M.2.2.2.2.isNone
    | none => false))) (by decide +kernel) tv_ck q hq
  have h1 := (Bool.and_eq_true _ _).mp hi
  have h2 := (Bool.and_eq_true _ _).mp h1.2
  have h3 := (Bool.and_eq_true _ _).mp h2.2
  have h4 := h3.2
  split at h4
  · rename_i M hM
    obtain ⟨n, hm, hk⟩ := tm_ok (of_decide_eq_true h2.1) hM (Option.isNone_iff_eq_none.mp h4)
    rcases hk with hk | hk
    · rw [hk.1] at h3
      cases h3.1
    · obtain ⟨ci, e1, e2, e3, e4, e5⟩ := hk
      subst e2
      exact ⟨aLkB_ok h1.1, hm, ⟨e4, e5⟩, ci, e1, e3⟩
  · cases h4
def ttP : List (Nat × Nat) := [(936, 127), (516, 117)]
def aTokB (q : Nat × Nat × Nat × Nat) (i : Nat × Nat) : Bool := Bundle.fit (txn q.2.2.2) && ((txs q.2.2.2).all Bundle.fit && (wAt i.1 (Cond.classLink (tcn q.1) q.2.1 (txn q.2.2.2)) && (wAt i.2 (Cond.initialized (txn q.2.2.2)) && (vx_at0 (tcn q.1) q.2.2.1 (txn q.2.2.2) (txs q.2.2.2)).all fun w => (goodWord w && decide (w ∈ lw_tbl)) || match w with
  | .castable a b => decide ((a, b) ∈ tcst)
  | _ => false)))
set_option maxRecDepth 100000 in
theorem tt_ck : ((ttL.zip ttP).all fun q => aTokB q.1 q.2) = true := by decide +kernel
theorem tt_ok : ∀ q ∈ ttL, Bundle.fit (txn q.2.2.2) = true ∧ (∀ n ∈ txs q.2.2.2, Bundle.fit n = true) ∧ (txs q.2.2.2).length ≤ 3 ∧ Cond.classLink (tcn q.1) q.2.1 (txn q.2.2.2) ∈ tWS ∧ Cond.initialized (txn q.2.2.2) ∈ tWS ∧ ∀ w ∈ vx_at0 (tcn q.1) q.2.2.1 (txn q.2.2.2) (txs q.2.2.2), w ∈ tWS ∨ ∃ z ∈ tcst, w = .castable z.1 z.2 := by
  intro q hq
  obtain ⟨i, hi⟩ := zAll (f := aTokB) (by decide +kernel) tt_ck q hq
  have h1 := (Bool.and_eq_true _ _).mp hi
  have h2 := (Bool.and_eq_true _ _).mp h1.2
  have h3 := (Bool.and_eq_true _ _).mp h2.2
  have h4 := (Bool.and_eq_true _ _).mp h3.2
  refine ⟨h1.1, fun n hn => List.all_eq_true.mp h2.1 n hn, by show 2 ≤ 3; omega, wAt_mem h3.1, wAt_mem h4.1, fun w hw => ?_⟩
  have h5 := List.all_eq_true.mp h4.2 w hw
  rcases (Bool.or_eq_true _ _).mp h5 with h6 | h6
  · have h7 := (Bool.and_eq_true _ _).mp h6
    exact Or.inl (List.mem_filter.mpr ⟨of_decide_eq_true h7.2, h7.1⟩)
  · split at h6
    · exact Or.inr ⟨_, of_decide_eq_true h6, rfl⟩
    · cases h6
