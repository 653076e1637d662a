/-! ===== a house that is being read (by wip/gen/emit_build.py) ===== -/
def stH (h : Ho) : Nat → Nat
  | 0 => 0
  | r + 1 => stH h r + (hR h r).length
def rdH (h : Ho) : Nat → Nat
  | 0 => 0
  | r + 1 => rdH h r + (rEnc (hR h r)).length
theorem stH_congr {h h' : Ho} : ∀ r, (∀ j, j < r → hR h' j = hR h j) → stH h' r = stH h r
  | 0, _ => rfl
  | r + 1, e => by
    show stH h' r + (hR h' r).length = stH h r + (hR h r).length
    rw [stH_congr r (fun j hj => e j (by omega)), e r (by omega)]
theorem rdH_congr {h h' : Ho} : ∀ r, (∀ j, j < r → hR h' j = hR h j) → rdH h' r = rdH h r
  | 0, _ => rfl
  | r + 1, e => by
    show rdH h' r + (rEnc (hR h' r)).length = rdH h r + (rEnc (hR h r)).length
    rw [rdH_congr r (fun j hj => e j (by omega)), e r (by omega)]
def hCn (h : Ho) : Prop := hn h 0 ≤ 20 ∧ hn h 1 ≤ 20 ∧ hn h 2 ≤ 6 ∧ hn h 3 ≤ 12 ∧ hn h 4 ≤ 4
/-- the class's spare house -/
def cHb (σ : aH) (h : Ho) : Prop := (∀ k, k < 5 → σ.1 8 k = Int32.ofNat (hn h k)) ∧ (∀ p, p < hn h 0 → ∀ k, k < 6 → σ.1 9 (6 * p + k) = hP h (6 * p + k)) ∧ (∀ s, s < hn h 1 → ∀ k, k < 6 → σ.1 9 (120 + (6 * s + k)) = hS h (6 * s + k)) ∧ (∀ l, l < hn h 2 → ∀ k, k < 5 → σ.1 9 (240 + (5 * l + k)) = hL h (5 * l + k)) ∧ (∀ j, j < hn h 3 → σ.1 9 (270 + j) = if hN h j = true then 1 else 0) ∧ σ.1 7 3 = Int32.ofNat (stH h (hn h 4)) ∧ ∀ r, r < hn h 4 → σ.1 9 (282 + r) = Int32.ofNat (stH h (r + 1)) ∧ pSeg (σ.1 10) (stH h r) (hR h r)
/-- the reference's new rows -/
def rHb (σ : aH) (h : Ho) : Prop := (∀ k, k < 5 → σ.1 33 (26 + k) = Int32.ofNat (hn h k)) ∧ (∀ p, p < hn h 0 → ∀ k, k < 6 → σ.1 42 (6 * p + k) = hP h (6 * p + k)) ∧ (∀ s, s < hn h 1 → ∀ k, k < 6 → σ.1 43 (6 * s + k) = hS h (6 * s + k)) ∧ (∀ l, l < hn h 2 → ∀ k, k < 5 → σ.1 44 (5 * l + k) = hL h (5 * l + k)) ∧ (∀ j, j < hn h 3 → σ.1 48 j = if hN h j = true then 1 else 0) ∧ σ.1 33 31 = Int32.ofNat (rdH h (hn h 4)) ∧ ∀ r, r < hn h 4 → σ.1 45 r = Int32.ofNat (rdH h r) ∧ pSeg (σ.1 46) (rdH h r) (rEnc (hR h r))
def hB (h : Ho) (kd : Nat) : Nat → Nat := fun k => if k = kd then hn h k + 1 else hn h k
def puP (h : Ho) (L : List Int32) : Ho := (hB h 0, (fun i => if i < 6 * hn h 0 then hP h i else L.getD (i - 6 * hn h 0) 0), hS h, hL h, hN h, hR h)
def puS (h : Ho) (L : List Int32) : Ho := (hB h 1, hP h, (fun i => if i < 6 * hn h 1 then hS h i else L.getD (i - 6 * hn h 1) 0), hL h, hN h, hR h)
def puL (h : Ho) (L : List Int32) : Ho := (hB h 2, hP h, hS h, (fun i => if i < 5 * hn h 2 then hL h i else L.getD (i - 5 * hn h 2) 0), hN h, hR h)
def puN (h : Ho) (b : Bool) : Ho := (hB h 3, hP h, hS h, hL h, (fun j => if j < hn h 3 then hN h j else b), hR h)
def puR (h : Ho) (o : List Int32) : Ho := (hB h 4, hP h, hS h, hL h, hN h, fun r => if r < hn h 4 then hR h r else o)
theorem hB_at {h : Ho} {k : Nat} : hB h k k = hn h k + 1 := if_pos rfl
theorem hB_of {h : Ho} {k j : Nat} (e : j ≠ k) : hB h k j = hn h j := if_neg e
theorem cHb_puP {σ b : aH} {h : Ho} (L : List Int32) (q : cHb σ h) (hc : hCn h) (hm : hn h 0 < 20) (e8 : ∀ k, k < 5 → b.1 8 k = if k = 0 then Int32.ofNat (hn h 0 + 1) else σ.1 8 k) (e9 : ∀ i, i < 6 * hn h 0 ∨ 6 * hn h 0 + 6 ≤ i → b.1 9 i = σ.1 9 i) (er : ∀ t, t < 6 → b.1 9 (6 * hn h 0 + t) = L.getD t 0) (e7 : b.1 7 = σ.1 7) (e10 : b.1 10 = σ.1 10) : cHb b (puP h L) := by
  obtain ⟨c, qP, qS, qL, qN, q7, qR⟩ := q
  obtain ⟨c0, c1, c2, c3, c4⟩ := hc
  have st : ∀ r, stH (puP h L) r = stH h r := fun r => stH_congr r (fun _ _ => rfl)
  refine ⟨fun k hk => ?_, fun p hp k hk => ?_, fun p hp k hk => ?_, fun p hp k hk => ?_, fun p hp => ?_, ?_, fun r hr => ?_⟩
  · rw [e8 k hk]
    show _ = Int32.ofNat (if k = 0 then hn h k + 1 else hn h k)
    by_cases e : k = 0
    · rw [if_pos e, if_pos e, e]
    · rw [if_neg e, if_neg e, c k hk]
  · have hp : p < hB h 0 0 := hp
    rw [hB_at] at hp
    show _ = if 6 * p + k < 6 * hn h 0 then hP h (6 * p + k) else L.getD (6 * p + k - 6 * hn h 0) 0
    by_cases e : p < hn h 0
    · rw [if_pos (by omega), e9 _ (Or.inl (by omega)), qP p e k hk]
    · have e2 : p = hn h 0 := by omega
      rw [if_neg (by omega), e2, er k hk, show 6 * hn h 0 + k - 6 * hn h 0 = k by omega]
  · have hp : p < hn h 1 := hp
    rw [e9 _ (Or.inr (by omega)), qS p hp k hk]
    rfl
  · have hp : p < hn h 2 := hp
    rw [e9 _ (Or.inr (by omega)), qL p hp k hk]
    rfl
  · have hp : p < hn h 3 := hp
    rw [e9 _ (Or.inr (by omega)), qN p hp]
    rfl
  · rw [e7, q7]
    exact congrArg Int32.ofNat (st (hn h 4)).symm
  · have hr : r < hn h 4 := hr
    rw [e9 _ (Or.inr (by omega)), e10, st, st]
    exact qR r hr
theorem rHb_puP {σ b : aH} {h : Ho} (L : List Int32) (q : rHb σ h) (ec : ∀ k, k < 5 → b.1 33 (26 + k) = if k = 0 then Int32.ofNat (hn h 0 + 1) else σ.1 33 (26 + k)) (eo : ∀ i, i < 6 * hn h 0 → b.1 42 i = σ.1 42 i) (er : ∀ t, t < 6 → b.1 42 (6 * hn h 0 + t) = L.getD t 0) (e43 : b.1 43 = σ.1 43) (e44 : b.1 44 = σ.1 44) (e48 : b.1 48 = σ.1 48) (e31 : b.1 33 31 = σ.1 33 31) (e45 : b.1 45 = σ.1 45) (e46 : b.1 46 = σ.1 46) : rHb b (puP h L) := by
  obtain ⟨c, qP, qS, qL, qN, q7, qR⟩ := q
  have st : ∀ r, rdH (puP h L) r = rdH h r := fun r => rdH_congr r (fun _ _ => rfl)
  refine ⟨fun k hk => ?_, fun p hp k hk => ?_, fun p hp k hk => ?_, fun p hp k hk => ?_, fun p hp => ?_, ?_, fun r hr => ?_⟩
  · rw [ec k hk]
    show _ = Int32.ofNat (if k = 0 then hn h k + 1 else hn h k)
    by_cases e : k = 0
    · rw [if_pos e, if_pos e, e]
    · rw [if_neg e, if_neg e, c k hk]
  · have hp : p < hB h 0 0 := hp
    rw [hB_at] at hp
    show _ = if 6 * p + k < 6 * hn h 0 then hP h (6 * p + k) else L.getD (6 * p + k - 6 * hn h 0) 0
    by_cases e : p < hn h 0
    · rw [if_pos (by omega), eo _ (by omega), qP p e k hk]
    · have e2 : p = hn h 0 := by omega
      rw [if_neg (by omega), e2, er k hk, show 6 * hn h 0 + k - 6 * hn h 0 = k by omega]
  · have hp : p < hn h 1 := hp
    rw [e43, qS p hp k hk]
    rfl
  · have hp : p < hn h 2 := hp
    rw [e44, qL p hp k hk]
    rfl
  · have hp : p < hn h 3 := hp
    rw [e48, qN p hp]
    rfl
  · rw [e31, q7]
    exact congrArg Int32.ofNat (st (hn h 4)).symm
  · have hr : r < hn h 4 := hr
    rw [e45, e46, st]
    exact qR r hr
theorem cHb_puS {σ b : aH} {h : Ho} (L : List Int32) (q : cHb σ h) (hc : hCn h) (hm : hn h 1 < 20) (e8 : ∀ k, k < 5 → b.1 8 k = if k = 1 then Int32.ofNat (hn h 1 + 1) else σ.1 8 k) (e9 : ∀ i, i < 120 + 6 * hn h 1 ∨ 120 + 6 * hn h 1 + 6 ≤ i → b.1 9 i = σ.1 9 i) (er : ∀ t, t < 6 → b.1 9 (120 + (6 * hn h 1 + t)) = L.getD t 0) (e7 : b.1 7 = σ.1 7) (e10 : b.1 10 = σ.1 10) : cHb b (puS h L) := by
  obtain ⟨c, qP, qS, qL, qN, q7, qR⟩ := q
  obtain ⟨c0, c1, c2, c3, c4⟩ := hc
  have st : ∀ r, stH (puS h L) r = stH h r := fun r => stH_congr r (fun _ _ => rfl)
  refine ⟨fun k hk => ?_, fun p hp k hk => ?_, fun p hp k hk => ?_, fun p hp k hk => ?_, fun p hp => ?_, ?_, fun r hr => ?_⟩
  · rw [e8 k hk]
    show _ = Int32.ofNat (if k = 1 then hn h k + 1 else hn h k)
    by_cases e : k = 1
    · rw [if_pos e, if_pos e, e]
    · rw [if_neg e, if_neg e, c k hk]
  · have hp : p < hn h 0 := hp
    rw [e9 _ (Or.inl (by omega)), qP p hp k hk]
    rfl
  · have hp : p < hB h 1 1 := hp
    rw [hB_at] at hp
    show _ = if 6 * p + k < 6 * hn h 1 then hS h (6 * p + k) else L.getD (6 * p + k - 6 * hn h 1) 0
    by_cases e : p < hn h 1
    · rw [if_pos (by omega), e9 _ (Or.inl (by omega)), qS p e k hk]
    · have e2 : p = hn h 1 := by omega
      rw [if_neg (by omega), e2, er k hk, show 6 * hn h 1 + k - 6 * hn h 1 = k by omega]
  · have hp : p < hn h 2 := hp
    rw [e9 _ (Or.inr (by omega)), qL p hp k hk]
    rfl
  · have hp : p < hn h 3 := hp
    rw [e9 _ (Or.inr (by omega)), qN p hp]
    rfl
  · rw [e7, q7]
    exact congrArg Int32.ofNat (st (hn h 4)).symm
  · have hr : r < hn h 4 := hr
    rw [e9 _ (Or.inr (by omega)), e10, st, st]
    exact qR r hr
theorem rHb_puS {σ b : aH} {h : Ho} (L : List Int32) (q : rHb σ h) (ec : ∀ k, k < 5 → b.1 33 (26 + k) = if k = 1 then Int32.ofNat (hn h 1 + 1) else σ.1 33 (26 + k)) (eo : ∀ i, i < 6 * hn h 1 → b.1 43 i = σ.1 43 i) (er : ∀ t, t < 6 → b.1 43 (6 * hn h 1 + t) = L.getD t 0) (e42 : b.1 42 = σ.1 42) (e44 : b.1 44 = σ.1 44) (e48 : b.1 48 = σ.1 48) (e31 : b.1 33 31 = σ.1 33 31) (e45 : b.1 45 = σ.1 45) (e46 : b.1 46 = σ.1 46) : rHb b (puS h L) := by
  obtain ⟨c, qP, qS, qL, qN, q7, qR⟩ := q
  have st : ∀ r, rdH (puS h L) r = rdH h r := fun r => rdH_congr r (fun _ _ => rfl)
  refine ⟨fun k hk => ?_, fun p hp k hk => ?_, fun p hp k hk => ?_, fun p hp k hk => ?_, fun p hp => ?_, ?_, fun r hr => ?_⟩
  · rw [ec k hk]
    show _ = Int32.ofNat (if k = 1 then hn h k + 1 else hn h k)
    by_cases e : k = 1
    · rw [if_pos e, if_pos e, e]
    · rw [if_neg e, if_neg e, c k hk]
  · have hp : p < hn h 0 := hp
    rw [e42, qP p hp k hk]
    rfl
  · have hp : p < hB h 1 1 := hp
    rw [hB_at] at hp
    show _ = if 6 * p + k < 6 * hn h 1 then hS h (6 * p + k) else L.getD (6 * p + k - 6 * hn h 1) 0
    by_cases e : p < hn h 1
    · rw [if_pos (by omega), eo _ (by omega), qS p e k hk]
    · have e2 : p = hn h 1 := by omega
      rw [if_neg (by omega), e2, er k hk, show 6 * hn h 1 + k - 6 * hn h 1 = k by omega]
  · have hp : p < hn h 2 := hp
    rw [e44, qL p hp k hk]
    rfl
  · have hp : p < hn h 3 := hp
    rw [e48, qN p hp]
    rfl
  · rw [e31, q7]
    exact congrArg Int32.ofNat (st (hn h 4)).symm
  · have hr : r < hn h 4 := hr
    rw [e45, e46, st]
    exact qR r hr
theorem cHb_puL {σ b : aH} {h : Ho} (L : List Int32) (q : cHb σ h) (hc : hCn h) (hm : hn h 2 < 6) (e8 : ∀ k, k < 5 → b.1 8 k = if k = 2 then Int32.ofNat (hn h 2 + 1) else σ.1 8 k) (e9 : ∀ i, i < 240 + 5 * hn h 2 ∨ 240 + 5 * hn h 2 + 5 ≤ i → b.1 9 i = σ.1 9 i) (er : ∀ t, t < 5 → b.1 9 (240 + (5 * hn h 2 + t)) = L.getD t 0) (e7 : b.1 7 = σ.1 7) (e10 : b.1 10 = σ.1 10) : cHb b (puL h L) := by
  obtain ⟨c, qP, qS, qL, qN, q7, qR⟩ := q
  obtain ⟨c0, c1, c2, c3, c4⟩ := hc
  have st : ∀ r, stH (puL h L) r = stH h r := fun r => stH_congr r (fun _ _ => rfl)
  refine ⟨fun k hk => ?_, fun p hp k hk => ?_, fun p hp k hk => ?_, fun p hp k hk => ?_, fun p hp => ?_, ?_, fun r hr => ?_⟩
  · rw [e8 k hk]
    show _ = Int32.ofNat (if k = 2 then hn h k + 1 else hn h k)
    by_cases e : k = 2
    · rw [if_pos e, if_pos e, e]
    · rw [if_neg e, if_neg e, c k hk]
  · have hp : p < hn h 0 := hp
    rw [e9 _ (Or.inl (by omega)), qP p hp k hk]
    rfl
  · have hp : p < hn h 1 := hp
    rw [e9 _ (Or.inl (by omega)), qS p hp k hk]
    rfl
  · have hp : p < hB h 2 2 := hp
    rw [hB_at] at hp
    show _ = if 5 * p + k < 5 * hn h 2 then hL h (5 * p + k) else L.getD (5 * p + k - 5 * hn h 2) 0
    by_cases e : p < hn h 2
    · rw [if_pos (by omega), e9 _ (Or.inl (by omega)), qL p e k hk]
    · have e2 : p = hn h 2 := by omega
      rw [if_neg (by omega), e2, er k hk, show 5 * hn h 2 + k - 5 * hn h 2 = k by omega]
  · have hp : p < hn h 3 := hp
    rw [e9 _ (Or.inr (by omega)), qN p hp]
    rfl
  · rw [e7, q7]
    exact congrArg Int32.ofNat (st (hn h 4)).symm
  · have hr : r < hn h 4 := hr
    rw [e9 _ (Or.inr (by omega)), e10, st, st]
    exact qR r hr
theorem rHb_puL {σ b : aH} {h : Ho} (L : List Int32) (q : rHb σ h) (ec : ∀ k, k < 5 → b.1 33 (26 + k) = if k = 2 then Int32.ofNat (hn h 2 + 1) else σ.1 33 (26 + k)) (eo : ∀ i, i < 5 * hn h 2 → b.1 44 i = σ.1 44 i) (er : ∀ t, t < 5 → b.1 44 (5 * hn h 2 + t) = L.getD t 0) (e42 : b.1 42 = σ.1 42) (e43 : b.1 43 = σ.1 43) (e48 : b.1 48 = σ.1 48) (e31 : b.1 33 31 = σ.1 33 31) (e45 : b.1 45 = σ.1 45) (e46 : b.1 46 = σ.1 46) : rHb b (puL h L) := by
  obtain ⟨c, qP, qS, qL, qN, q7, qR⟩ := q
  have st : ∀ r, rdH (puL h L) r = rdH h r := fun r => rdH_congr r (fun _ _ => rfl)
  refine ⟨fun k hk => ?_, fun p hp k hk => ?_, fun p hp k hk => ?_, fun p hp k hk => ?_, fun p hp => ?_, ?_, fun r hr => ?_⟩
  · rw [ec k hk]
    show _ = Int32.ofNat (if k = 2 then hn h k + 1 else hn h k)
    by_cases e : k = 2
    · rw [if_pos e, if_pos e, e]
    · rw [if_neg e, if_neg e, c k hk]
  · have hp : p < hn h 0 := hp
    rw [e42, qP p hp k hk]
    rfl
  · have hp : p < hn h 1 := hp
    rw [e43, qS p hp k hk]
    rfl
  · have hp : p < hB h 2 2 := hp
    rw [hB_at] at hp
    show _ = if 5 * p + k < 5 * hn h 2 then hL h (5 * p + k) else L.getD (5 * p + k - 5 * hn h 2) 0
    by_cases e : p < hn h 2
    · rw [if_pos (by omega), eo _ (by omega), qL p e k hk]
    · have e2 : p = hn h 2 := by omega
      rw [if_neg (by omega), e2, er k hk, show 5 * hn h 2 + k - 5 * hn h 2 = k by omega]
  · have hp : p < hn h 3 := hp
    rw [e48, qN p hp]
    rfl
  · rw [e31, q7]
    exact congrArg Int32.ofNat (st (hn h 4)).symm
  · have hr : r < hn h 4 := hr
    rw [e45, e46, st]
    exact qR r hr
theorem cHb_puN {σ b : aH} {h : Ho} (L : Bool) (q : cHb σ h) (hc : hCn h) (hm : hn h 3 < 12) (e8 : ∀ k, k < 5 → b.1 8 k = if k = 3 then Int32.ofNat (hn h 3 + 1) else σ.1 8 k) (e9 : ∀ i, i < 270 + hn h 3 ∨ 270 + hn h 3 + 1 ≤ i → b.1 9 i = σ.1 9 i) (er : b.1 9 (270 + hn h 3) = if L = true then 1 else 0) (e7 : b.1 7 = σ.1 7) (e10 : b.1 10 = σ.1 10) : cHb b (puN h L) := by
  obtain ⟨c, qP, qS, qL, qN, q7, qR⟩ := q
  obtain ⟨c0, c1, c2, c3, c4⟩ := hc
  have st : ∀ r, stH (puN h L) r = stH h r := fun r => stH_congr r (fun _ _ => rfl)
  refine ⟨fun k hk => ?_, fun p hp k hk => ?_, fun p hp k hk => ?_, fun p hp k hk => ?_, fun p hp => ?_, ?_, fun r hr => ?_⟩
  · rw [e8 k hk]
    show _ = Int32.ofNat (if k = 3 then hn h k + 1 else hn h k)
    by_cases e : k = 3
    · rw [if_pos e, if_pos e, e]
    · rw [if_neg e, if_neg e, c k hk]
  · have hp : p < hn h 0 := hp
    rw [e9 _ (Or.inl (by omega)), qP p hp k hk]
    rfl
  · have hp : p < hn h 1 := hp
    rw [e9 _ (Or.inl (by omega)), qS p hp k hk]
    rfl
  · have hp : p < hn h 2 := hp
    rw [e9 _ (Or.inl (by omega)), qL p hp k hk]
    rfl
  · have hp : p < hB h 3 3 := hp
    rw [hB_at] at hp
    show _ = if (if p < hn h 3 then hN h p else L) = true then (1 : Int32) else 0
    by_cases e : p < hn h 3
    · rw [if_pos e, e9 _ (Or.inl (by omega)), qN p e]
    · have e2 : p = hn h 3 := by omega
      rw [if_neg e, e2, er]
  · rw [e7, q7]
    exact congrArg Int32.ofNat (st (hn h 4)).symm
  · have hr : r < hn h 4 := hr
    rw [e9 _ (Or.inr (by omega)), e10, st, st]
    exact qR r hr
theorem rHb_puN {σ b : aH} {h : Ho} (L : Bool) (q : rHb σ h) (ec : ∀ k, k < 5 → b.1 33 (26 + k) = if k = 3 then Int32.ofNat (hn h 3 + 1) else σ.1 33 (26 + k)) (eo : ∀ i, i < hn h 3 → b.1 48 i = σ.1 48 i) (er : b.1 48 (hn h 3) = if L = true then 1 else 0) (e42 : b.1 42 = σ.1 42) (e43 : b.1 43 = σ.1 43) (e44 : b.1 44 = σ.1 44) (e31 : b.1 33 31 = σ.1 33 31) (e45 : b.1 45 = σ.1 45) (e46 : b.1 46 = σ.1 46) : rHb b (puN h L) := by
  obtain ⟨c, qP, qS, qL, qN, q7, qR⟩ := q
  have st : ∀ r, rdH (puN h L) r = rdH h r := fun r => rdH_congr r (fun _ _ => rfl)
  refine ⟨fun k hk => ?_, fun p hp k hk => ?_, fun p hp k hk => ?_, fun p hp k hk => ?_, fun p hp => ?_, ?_, fun r hr => ?_⟩
  · rw [ec k hk]
    show _ = Int32.ofNat (if k = 3 then hn h k + 1 else hn h k)
    by_cases e : k = 3
    · rw [if_pos e, if_pos e, e]
    · rw [if_neg e, if_neg e, c k hk]
  · have hp : p < hn h 0 := hp
    rw [e42, qP p hp k hk]
    rfl
  · have hp : p < hn h 1 := hp
    rw [e43, qS p hp k hk]
    rfl
  · have hp : p < hn h 2 := hp
    rw [e44, qL p hp k hk]
    rfl
  · have hp : p < hB h 3 3 := hp
    rw [hB_at] at hp
    show _ = if (if p < hn h 3 then hN h p else L) = true then (1 : Int32) else 0
    by_cases e : p < hn h 3
    · rw [if_pos e, eo _ e, qN p e]
    · have e2 : p = hn h 3 := by omega
      rw [if_neg e, e2, er]
  · rw [e31, q7]
    exact congrArg Int32.ofNat (st (hn h 4)).symm
  · have hr : r < hn h 4 := hr
    rw [e45, e46, st]
    exact qR r hr
theorem cHb_puR {σ b : aH} {h : Ho} {o : List Int32} (q : cHb σ h) (hc : hCn h) (e8 : ∀ k, k < 5 → b.1 8 k = if k = 4 then Int32.ofNat (hn h 4 + 1) else σ.1 8 k) (e9 : ∀ i, i < 282 + hn h 4 → b.1 9 i = σ.1 9 i) (er : b.1 9 (282 + hn h 4) = Int32.ofNat (stH h (hn h 4) + o.length)) (e7 : b.1 7 3 = Int32.ofNat (stH h (hn h 4) + o.length)) (e10 : ∀ r, r < hn h 4 → pSeg (b.1 10) (stH h r) (hR h r)) (e10o : pSeg (b.1 10) (stH h (hn h 4)) o) : cHb b (puR h o) := by
  obtain ⟨c, qP, qS, qL, qN, q7, qR⟩ := q
  obtain ⟨c0, c1, c2, c3, c4⟩ := hc
  have hr1 : ∀ j, j < hn h 4 → hR (puR h o) j = hR h j := fun j hj => if_pos hj
  have hr2 : hR (puR h o) (hn h 4) = o := if_neg (Nat.lt_irrefl _)
  have st : ∀ r, r ≤ hn h 4 → stH (puR h o) r = stH h r := fun r hr => stH_congr r (fun j hj => hr1 j (by omega))
  have st2 : stH (puR h o) (hn h 4 + 1) = stH h (hn h 4) + o.length := by
    show stH (puR h o) (hn h 4) + (hR (puR h o) (hn h 4)).length = _
    rw [st _ (Nat.le_refl _), hr2]
  refine ⟨fun k hk => ?_, fun p hp k hk => ?_, fun p hp k hk => ?_, fun p hp k hk => ?_, fun p hp => ?_, ?_, fun r hr => ?_⟩
  · rw [e8 k hk]
    show _ = Int32.ofNat (if k = 4 then hn h k + 1 else hn h k)
    by_cases e : k = 4
    · rw [if_pos e, if_pos e, e]
    · rw [if_neg e, if_neg e, c k hk]
  · have hp : p < hn h 0 := hp
    rw [e9 _ (by omega), qP p hp k hk]
    rfl
  · have hp : p < hn h 1 := hp
    rw [e9 _ (by omega), qS p hp k hk]
    rfl
  · have hp : p < hn h 2 := hp
    rw [e9 _ (by omega), qL p hp k hk]
    rfl
  · have hp : p < hn h 3 := hp
    rw [e9 _ (by omega), qN p hp]
    rfl
  · show _ = Int32.ofNat (stH (puR h o) (hB h 4 4))
    rw [hB_at, st2, e7]
  · have hr : r < hB h 4 4 := hr
    rw [hB_at] at hr
    by_cases e : r < hn h 4
    · rw [e9 _ (by omega), (qR r e).1, st (r + 1) (by omega), st r (by omega), hr1 r e]
      exact ⟨rfl, e10 r e⟩
    · have e2 : r = hn h 4 := by omega
      rw [e2, st2, er, st _ (Nat.le_refl _), hr2]
      exact ⟨rfl, e10o⟩
theorem rHb_puR {σ b : aH} {h : Ho} {o : List Int32} (q : rHb σ h) (ec : ∀ k, k < 5 → b.1 33 (26 + k) = if k = 4 then Int32.ofNat (hn h 4 + 1) else σ.1 33 (26 + k)) (e42 : b.1 42 = σ.1 42) (e43 : b.1 43 = σ.1 43) (e44 : b.1 44 = σ.1 44) (e48 : b.1 48 = σ.1 48) (eo : ∀ i, i < hn h 4 → b.1 45 i = σ.1 45 i) (er : b.1 45 (hn h 4) = Int32.ofNat (rdH h (hn h 4))) (e31 : b.1 33 31 = Int32.ofNat (rdH h (hn h 4) + (rEnc o).length)) (e46 : ∀ r, r < hn h 4 → pSeg (b.1 46) (rdH h r) (rEnc (hR h r))) (e46o : pSeg (b.1 46) (rdH h (hn h 4)) (rEnc o)) : rHb b (puR h o) := by
  obtain ⟨c, qP, qS, qL, qN, q7, qR⟩ := q
  have hr1 : ∀ j, j < hn h 4 → hR (puR h o) j = hR h j := fun j hj => if_pos hj
  have hr2 : hR (puR h o) (hn h 4) = o := if_neg (Nat.lt_irrefl _)
  have st : ∀ r, r ≤ hn h 4 → rdH (puR h o) r = rdH h r := fun r hr => rdH_congr r (fun j hj => hr1 j (by omega))
  have st2 : rdH (puR h o) (hn h 4 + 1) = rdH h (hn h 4) + (rEnc o).length := by
    show rdH (puR h o) (hn h 4) + (rEnc (hR (puR h o) (hn h 4))).length = _
    rw [st _ (Nat.le_refl _), hr2]
  refine ⟨fun k hk => ?_, fun p hp k hk => ?_, fun p hp k hk => ?_, fun p hp k hk => ?_, fun p hp => ?_, ?_, fun r hr => ?_⟩
  · rw [ec k hk]
    show _ = Int32.ofNat (if k = 4 then hn h k + 1 else hn h k)
    by_cases e : k = 4
    · rw [if_pos e, if_pos e, e]
    · rw [if_neg e, if_neg e, c k hk]
  · have hp : p < hn h 0 := hp
    rw [e42, qP p hp k hk]
    rfl
  · have hp : p < hn h 1 := hp
    rw [e43, qS p hp k hk]
    rfl
  · have hp : p < hn h 2 := hp
    rw [e44, qL p hp k hk]
    rfl
  · have hp : p < hn h 3 := hp
    rw [e48, qN p hp]
    rfl
  · show _ = Int32.ofNat (rdH (puR h o) (hB h 4 4))
    rw [hB_at, st2, e31]
  · have hr : r < hB h 4 4 := hr
    rw [hB_at] at hr
    by_cases e : r < hn h 4
    · rw [eo _ e, (qR r e).1, st r (by omega), hr1 r e]
      exact ⟨rfl, e46 r e⟩
    · have e2 : r = hn h 4 := by omega
      rw [e2, er, st _ (Nat.le_refl _), hr2]
      exact ⟨rfl, e46o⟩
/-! the class's ways of writing the spare house -/
section PBuild
variable {G : Nat × (Nat → Int32)} {d : Nat} {σ : aH} {T : Tx} {s : Nat × Nat}
theorem s_tellN {k n w : Nat} {x1 x2 v : Int32} (h1 : x1 = Int32.ofNat k) (hk : k < 5) (e8 : σ.1 8 k = Int32.ofNat n) (h2 : x2 = Int32.ofNat w) (hi : pFst k + n * pWid k + w < 286) : Rn G (d + 2) 37 [.ref 7, .int x1, .int x2, .int v] σ = oV (aSI σ 9 (pFst k + n * pWid k + w) v) := by
  rw [e_Rh_House_tellNext, s_first h1 hk, pCI, s_cell (r := 8) (n := 5) (i := k) rfl h1 hk (by decide), pCI, s_width h1 hk, pCI, s_put (r := 9) (n := 286) (i := pFst k + n * pWid k + w) rfl (by rw [e8, h2, pIdx]) hi (by decide), pCV]
def pMost (k : Nat) : Nat := match k with
  | 0 => 20
  | 1 => 20
  | 2 => 6
  | 3 => 12
  | _ => 4
theorem s_mostH {x : Int32} {k : Nat} (hx : x = Int32.ofNat k) (hk : k < 5) : Rn G (d + 1) 32 [.ref 65, .int x] σ = oI ((Int32.ofNat (pMost k))) σ := by
  rw [s_cellC (n := 5) (i := k) (g := fun k => ([20, 20, 6, 12, 4] : List Int32).getD k 0) rfl hx hk (by decide)]
  rcases (show k = 0 ∨ k = 1 ∨ k = 2 ∨ k = 3 ∨ k = 4 by omega) with rfl | rfl | rfl | rfl | rfl <;> rfl
theorem s_isFull {k n : Nat} {x1 : Int32} (h1 : x1 = Int32.ofNat k) (hk : k < 5) (e8 : σ.1 8 k = Int32.ofNat n) (hn : n < 2147483648) : Rn G (d + 2) 31 [.ref 7, .int x1] σ = oI (if n < pMost k then 0 else 1) σ := by
  have hm : pMost k < 21 := by
    rcases (show k = 0 ∨ k = 1 ∨ k = 2 ∨ k = 3 ∨ k = 4 by omega) with rfl | rfl | rfl | rfl | rfl <;> decide
  rw [e_Rh_House_isFull, s_cell (r := 8) (n := 5) (i := k) rfl h1 hk (by decide), pCI, s_mostH h1 hk, pCI, e8]
  by_cases h : n < pMost k
  · rw [if_pos (pGo' h (by omega)), if_pos h]
  · rw [if_neg (fun h2 => h ((pN_lt hn (by omega)).mp h2)), if_neg h]
theorem s_close {k n : Nat} {x1 : Int32} (h1 : x1 = Int32.ofNat k) (hk : k < 5) (e8 : σ.1 8 k = Int32.ofNat n) : Rn G (d + 2) 56 [.ref 7, .int x1] σ = oV (aSI σ 8 k (Int32.ofNat (n + 1))) := by
  rw [e_Rh_House_close, s_cell (r := 8) (n := 5) (i := k) rfl h1 hk (by decide), pCI, e8, pN_s, s_put (r := 8) (n := 5) (i := k) rfl h1 hk (by decide), pCV]
/-- a row that is being written -/
def rowC (fr : List Nat) (o base : Nat) (σ a : aH) (L : List Int32) : Prop := pSame (o :: fr) σ a ∧ (∀ t, t < L.length → a.1 o (base + t) = L.getD t 0) ∧ ∀ i, i < base ∨ base + L.length ≤ i → a.1 o i = σ.1 o i
theorem rowC.nil {fr : List Nat} {o base : Nat} : rowC fr o base σ σ [] := ⟨pSame.rfl', fun t ht => absurd ht (Nat.not_lt_zero t), fun _ _ => rfl⟩
theorem rowC.step {fr : List Nat} {o base : Nat} {a b : aH} {L : List Int32} (r : rowC fr o base σ a L) (f : pSame fr a b) (ho : o ∉ fr) (v : Int32) : rowC fr o base σ (aSI b o (base + L.length) v) (L ++ [v]) := by
  obtain ⟨r1, r2, r3⟩ := r
  have el : (L ++ [v]).length = L.length + 1 := by rw [List.length_append]; rfl
  refine ⟨(r1.trans (f.mono (fun x hx => List.mem_cons_of_mem _ hx))).si (List.mem_cons_self ..), fun t ht => ?_, fun i hi => ?_⟩
  · rw [el] at ht
    by_cases e : t = L.length
    · subst e
      rw [pSI_at, gD_last]
    · rw [pSI_of (by omega), f.at ho, r2 t (by omega), gD_app (by omega)]
  · rw [el] at hi
    rw [pSI_of (by omega), f.at ho, r3 i (by omega)]
end PBuild
