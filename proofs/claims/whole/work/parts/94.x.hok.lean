/-! ===== one more of a kind; places go forwards (by wip/gen/emit_hok.py) ===== -/
theorem pBd_of {lo hi v : Int32} {a b : Int} (ha : lo.toInt = a) (hb : hi.toInt = b) (h1 : lo ≤ v) (h2 : v ≤ hi) : pBd v a b := by
  rw [pLe] at h1 h2
  rw [← ha, ← hb]
  exact ⟨h1, h2⟩
theorem okP_congr {P Q : Nat → Int32} {p q : Nat} (h : ∀ k, k < 6 → P (6 * p + k) = Q (6 * q + k)) (b : okP Q q) : okP P p := by
  unfold okP
  rw [show P (6 * p) = Q (6 * q) from h 0 (by decide), h 1 (by decide), h 2 (by decide), h 3 (by decide), h 4 (by decide), h 5 (by decide)]
  exact b
theorem okS_congr {P Q : Nat → Int32} {p q : Nat} (h : ∀ k, k < 6 → P (6 * p + k) = Q (6 * q + k)) (b : okS Q q) : okS P p := by
  unfold okS
  rw [show P (6 * p) = Q (6 * q) from h 0 (by decide), h 1 (by decide), h 2 (by decide), h 3 (by decide), h 4 (by decide), h 5 (by decide)]
  exact b
theorem okL_congr {P Q : Nat → Int32} {p q : Nat} (h : ∀ k, k < 5 → P (5 * p + k) = Q (5 * q + k)) (b : okL Q q) : okL P p := by
  unfold okL
  rw [show P (5 * p) = Q (5 * q) from h 0 (by decide), h 1 (by decide), h 2 (by decide), h 3 (by decide), h 4 (by decide)]
  exact b
theorem Hok_puP {h : Ho} {L : List Int32} (hk : Hok h) (hm : hn h 0 < 20) (b : okP (fun i => L.getD i 0) 0) : Hok (puP h L) := by
  obtain ⟨⟨c0, c1, c2, c3, c4⟩, kP, kS, kL, kR⟩ := hk
  have hb : hB h 0 0 ≤ 20 := by rw [hB_at]; omega
  have hrow : ∀ p, p < hB h 0 0 → okP (fun i => if i < 6 * hn h 0 then hP h i else L.getD (i - 6 * hn h 0) 0) p := by
    intro p hp
    rw [hB_at] at hp
    by_cases e : p < hn h 0
    · exact okP_congr (Q := hP h) (q := p) (fun k hk => if_pos (by omega)) (kP p e)
    · have e2 : p = hn h 0 := by omega
      subst e2
      refine okP_congr (Q := fun i => L.getD i 0) (q := 0) (fun k hk => ?_) b
      show (if 6 * hn h 0 + k < 6 * hn h 0 then _ else L.getD (6 * hn h 0 + k - 6 * hn h 0) 0) = L.getD (6 * 0 + k) 0
      rw [if_neg (by omega), Nat.add_sub_cancel_left, Nat.mul_zero, Nat.zero_add]
  exact ⟨⟨hb, c1, c2, c3, c4⟩, hrow, kS, kL, kR⟩
theorem Hok_puS {h : Ho} {L : List Int32} (hk : Hok h) (hm : hn h 1 < 20) (b : okS (fun i => L.getD i 0) 0) : Hok (puS h L) := by
  obtain ⟨⟨c0, c1, c2, c3, c4⟩, kP, kS, kL, kR⟩ := hk
  have hb : hB h 1 1 ≤ 20 := by rw [hB_at]; omega
  have hrow : ∀ p, p < hB h 1 1 → okS (fun i => if i < 6 * hn h 1 then hS h i else L.getD (i - 6 * hn h 1) 0) p := by
    intro p hp
    rw [hB_at] at hp
    by_cases e : p < hn h 1
    · exact okS_congr (Q := hS h) (q := p) (fun k hk => if_pos (by omega)) (kS p e)
    · have e2 : p = hn h 1 := by omega
      subst e2
      refine okS_congr (Q := fun i => L.getD i 0) (q := 0) (fun k hk => ?_) b
      show (if 6 * hn h 1 + k < 6 * hn h 1 then _ else L.getD (6 * hn h 1 + k - 6 * hn h 1) 0) = L.getD (6 * 0 + k) 0
      rw [if_neg (by omega), Nat.add_sub_cancel_left, Nat.mul_zero, Nat.zero_add]
  exact ⟨⟨c0, hb, c2, c3, c4⟩, kP, hrow, kL, kR⟩
theorem Hok_puL {h : Ho} {L : List Int32} (hk : Hok h) (hm : hn h 2 < 6) (b : okL (fun i => L.getD i 0) 0) : Hok (puL h L) := by
  obtain ⟨⟨c0, c1, c2, c3, c4⟩, kP, kS, kL, kR⟩ := hk
  have hb : hB h 2 2 ≤ 6 := by rw [hB_at]; omega
  have hrow : ∀ p, p < hB h 2 2 → okL (fun i => if i < 5 * hn h 2 then hL h i else L.getD (i - 5 * hn h 2) 0) p := by
    intro p hp
    rw [hB_at] at hp
    by_cases e : p < hn h 2
    · exact okL_congr (Q := hL h) (q := p) (fun k hk => if_pos (by omega)) (kL p e)
    · have e2 : p = hn h 2 := by omega
      subst e2
      refine okL_congr (Q := fun i => L.getD i 0) (q := 0) (fun k hk => ?_) b
      show (if 5 * hn h 2 + k < 5 * hn h 2 then _ else L.getD (5 * hn h 2 + k - 5 * hn h 2) 0) = L.getD (5 * 0 + k) 0
      rw [if_neg (by omega), Nat.add_sub_cancel_left, Nat.mul_zero, Nat.zero_add]
  exact ⟨⟨c0, c1, hb, c3, c4⟩, kP, kS, hrow, kR⟩
theorem Hok_puN {h : Ho} {b : Bool} (hk : Hok h) (hm : hn h 3 < 12) : Hok (puN h b) := by
  obtain ⟨⟨c0, c1, c2, c3, c4⟩, kP, kS, kL, kR⟩ := hk
  have hb : hB h 3 3 ≤ 12 := by rw [hB_at]; omega
  exact ⟨⟨c0, c1, c2, hb, c4⟩, kP, kS, kL, kR⟩
theorem Hok_puR {h : Ho} {o : List Int32} (hk : Hok h) (hm : hn h 4 < 4) (w : pWf o 0) : Hok (puR h o) := by
  obtain ⟨⟨c0, c1, c2, c3, c4⟩, kP, kS, kL, kR⟩ := hk
  have hb : hB h 4 4 ≤ 4 := by rw [hB_at]; omega
  refine ⟨⟨c0, c1, c2, c3, hb⟩, kP, kS, kL, fun r hr => ?_⟩
  have hr : r < hB h 4 4 := hr
  rw [hB_at] at hr
  show pWf (if r < hn h 4 then hR h r else o) 0
  by_cases e : r < hn h 4
  · rw [if_pos e]
    exact kR r e
  · rw [if_neg e]
    exact w
section PFwd
variable {T : Tx} {s : Nat × Nat}
/-- from one state to the next: forwards, within the text -/
def fwd (T : Tx) (s s' : Nat × Nat) : Prop := s.2 ≤ T.1 → s'.1 = 0 → s.2 ≤ s'.2 ∧ s'.2 ≤ T.1
theorem fwd.trans {a b : Nat × Nat} (f : fwd T s a) (h0 : b.1 = 0 → a.1 = 0) (g : fwd T a b) : fwd T s b := fun h hb => by
  have x := f h (h0 hb)
  have y := g x.2 hb
  omega
theorem fwd_num {lo hi : Int32} : fwd T s (mNumS T lo hi s) := fun h h0 => by
  have a := (mNumS_0 h0).2.2.2.2
  have b := tE_le h
  rw [a]
  exact ⟨b.2.2, b.2.1⟩
theorem fwd_need {b : Bool} : fwd T s (mNeed T b s) := fun h h0 => by
  have a := (mNeed_0 h0).2.2
  have b := tE_le h
  rw [a]
  exact ⟨b.2.2, b.2.1⟩
theorem fwd_fd {x : Nat} {lo hi : Int32} : fwd T s (mFd T x lo hi s) := (fwd_need (b := tW T s x)).trans (fun h => (mNumS_0 h).1) fwd_num
theorem fwd_te {s' : Nat × Nat} (e : s' = (0, tE T s.2)) : fwd T s s' := fun h _ => by
  have b := tE_le h
  rw [e]
  exact ⟨b.2.2, b.2.1⟩
theorem fwd_id : fwd T s s := fun h _ => ⟨Nat.le_refl _, h⟩
theorem fwd_pz {x : Nat} {lo hi : Int32} : fwd T s (mPz T x lo hi s) := by
  unfold mPz
  split
  · exact (fwd_te rfl).trans (fun _ => rfl) fwd_num
  · exact fwd_id
theorem fwd_ei {x y : Nat} : fwd T s (mEi T x y s) := by
  unfold mEi
  split
  · exact fwd_te rfl
  · exact fwd_id
theorem fwd_co {x : Nat} : fwd T s (mCo T x s) := by
  unfold mCo
  split
  · exact fwd_te rfl
  · exact fwd_id
theorem fwd_P : fwd T s (zP6 T s) := ((((fwd_fd.trans zP2_0 fwd_fd).trans zP3_0 fwd_fd).trans zP4_0 fwd_fd).trans zP5_0 fwd_pz).trans zP6_0 fwd_pz
theorem fwd_S : fwd T s (zS6 T s) := ((((fwd_fd.trans zS2_0 fwd_pz).trans zS3_0 fwd_ei).trans zS4_0 fwd_ei).trans zS5_0 fwd_co).trans zS6_0 fwd_pz
theorem fwd_L : fwd T s (zL5 T s) := (((fwd_need.trans zL2_0 fwd_pz).trans zL3_0 fwd_pz).trans zL4_0 fwd_pz).trans zL5_0 fwd_pz
theorem vEi_3 {x y : Nat} : vEi T x y s = 0 ∨ vEi T x y s = 1 ∨ vEi T x y s = 2 := by
  unfold vEi
  repeat' split
  · exact Or.inr (Or.inl rfl)
  · exact Or.inr (Or.inr rfl)
  · exact Or.inl rfl
theorem vIf_2 {x : Nat} : vIf T x s = 0 ∨ vIf T x s = 1 := by
  unfold vIf
  split
  · exact Or.inr rfl
  · exact Or.inl rfl
theorem ok_vP (h : (zP6 T s).1 = 0) : okP (fun i => (vPs T s).getD i 0) 0 := by
  have y5 := zP6_0 h
  have y4 := zP5_0 y5
  have y3 := zP4_0 y4
  have y2 := zP3_0 y3
  have y1 := zP2_0 y2
  obtain ⟨_, _, a0, b0, _⟩ := mFd_0 (s := s) y1
  obtain ⟨_, _, a1, b1, _⟩ := mFd_0 (s := zP1 T s) y2
  obtain ⟨_, _, a2, b2, _⟩ := mFd_0 (s := zP2 T s) y3
  obtain ⟨_, _, a3, b3, _⟩ := mFd_0 (s := zP3 T s) y4
  obtain ⟨_, a4, b4⟩ := mPz_0 (s := zP4 T s) (w := 0) (by decide) (by decide) y5
  obtain ⟨_, a5, b5⟩ := mPz_0 (s := zP5 T s) (w := 0) (by decide) (by decide) h
  exact ⟨pBd_of rfl rfl a0 b0, pBd_of rfl rfl a1 b1, pBd_of rfl rfl a2 b2, pBd_of rfl rfl a3 b3, pBd_of rfl rfl a4 b4, pBd_of rfl rfl a5 b5⟩
theorem ok_vS (h : (zS6 T s).1 = 0) : okS (fun i => (vSs T s).getD i 0) 0 := by
  have y5 := zS6_0 h
  have y4 := zS5_0 y5
  have y3 := zS4_0 y4
  have y2 := zS3_0 y3
  have y1 := zS2_0 y2
  obtain ⟨_, _, a0, b0, _⟩ := mFd_0 (s := s) y1
  obtain ⟨_, a1, b1⟩ := mPz_0 (s := zS1 T s) (w := 0) (by decide) (by decide) y2
  obtain ⟨_, a5, b5⟩ := mPz_0 (s := zS5 T s) (w := 60) (by decide) (by decide) h
  exact ⟨pBd_of rfl rfl a0 b0, pBd_of rfl rfl a1 b1, vEi_3, vEi_3, vIf_2, pBd_of rfl rfl a5 b5⟩
theorem ok_vL (h : (zL5 T s).1 = 0) : okL (fun i => (vLs T s).getD i 0) 0 := by
  have y4 := zL5_0 h
  have y3 := zL4_0 y4
  have y2 := zL3_0 y3
  have y1 := zL2_0 y2
  have a0 : 0 ≤ mWh T s [25, 26, 18] := of_decide_eq_true (mNeed_0 (s := s) y1).2.1
  have m3 : mWh T s [25, 26, 18] = 0 ∨ mWh T s [25, 26, 18] = 1 ∨ mWh T s [25, 26, 18] = 2 := by
    have mw : mWh T s [25, 26, 18] = if tW T s 25 = true then 0 else if tW T s 26 = true then 1 else if tW T s 18 = true then 2 else -1 := rfl
    rw [mw] at a0 ⊢
    by_cases h1 : tW T s 25 = true
    · rw [if_pos h1]
      exact Or.inl rfl
    · rw [if_neg h1] at a0 ⊢
      by_cases h2 : tW T s 26 = true
      · rw [if_pos h2]
        exact Or.inr (Or.inl rfl)
      · rw [if_neg h2] at a0 ⊢
        by_cases h3 : tW T s 18 = true
        · rw [if_pos h3]
          exact Or.inr (Or.inr rfl)
        · rw [if_neg h3] at a0
          exact absurd a0 (by decide)
  obtain ⟨_, a1, b1⟩ := mPz_0 (s := zL1 T s) (w := 300) (by decide) (by decide) y2
  obtain ⟨_, a2, b2⟩ := mPz_0 (s := zL2 T s) (w := 20) (by decide) (by decide) y3
  obtain ⟨_, a3, b3⟩ := mPz_0 (s := zL3 T s) (w := 100) (by decide) (by decide) y4
  obtain ⟨_, a4, b4⟩ := mPz_0 (s := zL4 T s) (w := 300) (by decide) (by decide) h
  exact ⟨m3, pBd_of rfl rfl a1 b1, pBd_of rfl rfl a2 b2, pBd_of rfl rfl a3 b3, pBd_of rfl rfl a4 b4⟩
end PFwd
