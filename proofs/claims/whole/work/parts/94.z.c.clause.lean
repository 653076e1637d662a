/-! ===== one clause, on both sides ===== -/
def okH (h : Ho) (p : Nat) : Prop := Hok h ∧ stH h (hn h 4) ≤ p ∧ 2 * rdH h (hn h 4) ≤ 3 * p
theorem okH.same {h h' : Ho} {p p' : Nat} (q : okH h p) (hk : Hok h') (e4 : hn h' 4 = hn h 4) (eR : hR h' = hR h) (hp : p ≤ p') : okH h' p' := by
  obtain ⟨_, a, b⟩ := q
  have c := stH_congr (h := h) (h' := h') (hn h 4) (fun j _ => by rw [eR])
  have d := rdH_congr (h := h) (h' := h') (hn h 4) (fun j _ => by rw [eR])
  refine ⟨hk, ?_, ?_⟩
  · rw [e4, c]
    omega
  · rw [e4, d]
    omega
/-- what a clause makes, on both sides -/
def clO (G : Nat × (Nat → Int32)) (d d2 : Nat) (T : Tx) (p : Nat) (h : Ho) (s' : Nat × Nat) (h' : Ho) : Prop := (∀ i σ, i < 700 → CS σ T (0, p) → cHb σ h → ∃ b, Lq G (d + 10) M_22 (6, [some (.ref 1), some (.ref 7), some (.ref 11), some (.int (Int32.ofNat i)), none], [], σ) = Lq G (d + 10) M_22 (6, [some (.ref 1), some (.ref 7), some (.ref 11), some (.int (Int32.ofNat (i + 1))), none], [], b) ∧ pSame sp7 σ b ∧ CS b T s' ∧ (s'.1 = 0 → cHb b h')) ∧ (∀ σ, RS σ T (0, p) → rHb σ h → ∃ b, Rn G (d2 + 8) 68 [.ref 33] σ = oV b ∧ rHF σ b ∧ RS b T s' ∧ (s'.1 = 0 → rHb b h')) ∧ (s'.1 = 0 → okH h' s'.2 ∧ p < s'.2 ∧ s'.2 ≤ T.1)
section PClause
variable {G : Nat × (Nat → Int32)} {d d2 : Nat} {T : Tx} {p : Nat} {h : Ho}
theorem kd_getD : ∀ k : Fin 5, (kdL.map KW).getD k.val [] = KW (kdL.getD k.val 0) ∧ kdL.getD k.val 0 < 39 := by decide
theorem kd_mem : ∀ k : Fin 5, kdL.getD k.val 0 ∈ kdL := by decide
/-- a kind: the class's index, the reference's word -/
theorem kd_cases (T : Tx) (p : Nat) : (¬ 0 ≤ mWh T (0, p) kdL ∧ ∀ x, x ∈ kdL → ¬ tW T (0, p) x = true) ∨ ∃ k, k < 5 ∧ mWh T (0, p) kdL = Int32.ofNat k ∧ kn T (tQ T p) = Int32.ofNat (kdL.getD k 0) ∧ tW T (0, p) (kdL.getD k 0) = true := by
  by_cases h0 : 0 ≤ mWh T (0, p) kdL
  · rcases mAm_rng (T := T) (Q := tQ T p) (kdL.map KW) 0 with a | ⟨k, a, b, c⟩
    · have h0 : 0 ≤ mAm T (tQ T p) (kdL.map KW) 0 := h0
      rw [a] at h0
      exact absurd h0 (by decide)
    · have hk : k < 5 := a
      obtain ⟨g1, g2⟩ := kd_getD ⟨k, hk⟩
      have g1 : (kdL.map KW).getD k [] = KW (kdL.getD k 0) := g1
      rw [g1] at c
      exact Or.inr ⟨k, hk, by rw [show mWh T (0, p) kdL = mAm T (tQ T p) (kdL.map KW) 0 from rfl, b, Nat.zero_add], (kn_iff g2).mpr c, c⟩
  · exact Or.inl ⟨h0, fun x hx => mAm_none (T := T) (Q := tQ T p) (kdL.map KW) 0 (by decide) h0 (KW x) (List.mem_map.mpr ⟨x, hx, rfl⟩)⟩
/-- a clause that reads a row -/
theorem cl_row {z : Nat × Nat} {h' : Ho} (hp : p ≤ T.1) (k0 : tK T p ≠ 0) (ok : okH h p) (cs : ∀ i σ, i < 700 → CS σ T (0, p) → cHb σ h → ∃ b, Lq G (d + 10) M_22 (6, [some (.ref 1), some (.ref 7), some (.ref 11), some (.int (Int32.ofNat i)), none], [], σ) = Lq G (d + 10) M_22 (6, [some (.ref 1), some (.ref 7), some (.ref 11), some (.int (Int32.ofNat (i + 1))), none], [], b) ∧ pSame sp7 σ b ∧ CS b T (mNeed T (tS T z 59) z) ∧ ((mNeed T (tS T z 59) z).1 = 0 → cHb b h')) (rs : ∀ σ, RS σ T (0, p) → rHb σ h → ∃ b, Rn G (d2 + 8) 68 [.ref 33] σ = oV b ∧ rHF σ b ∧ RS b T (mNeed T (tS T z 59) z) ∧ ((mNeed T (tS T z 59) z).1 = 0 → rHb b h')) (fw : fwd T (0, tE T p) z) (hk : z.1 = 0 → Hok h') (e4 : hn h' 4 = hn h 4) (eR : hR h' = hR h) : ∃ s' h', clO G d d2 T p h s' h' := by
  refine ⟨_, h', cs, rs, fun hz => ?_⟩
  have z0 := (mNeed_0 hz).1
  have le := tE_le hp
  have gt := tE_gt hp k0
  have a := fw le.2.1 z0
  have b := (fwd_need (T := T) (s := z) (b := tS T z 59)) a.2 hz
  have a1 : tE T p ≤ z.2 := a.1
  exact ⟨ok.same (hk z0) e4 eR (by omega), by omega, b.2⟩
theorem clause (hT : T.1 ≤ 700) (hp : p ≤ T.1) (k0 : tK T p ≠ 0) (ok : okH h p) : ∃ s' h', clO G d d2 T p h s' h' := by
  have hk := ok.1
  obtain ⟨c0, c1, c2, c3, c4⟩ := hk.1
  have le := tE_le hp
  have gt := tE_gt hp k0
  rcases kd_cases T p with ⟨hn', hw⟩ | ⟨k, hk5, hm, hkn, htw⟩
  · -- no kind
    refine ⟨(1, p), h, fun i σ hi q _ => ?_, fun σ q _ => ?_, fun e => absurd (show (1 : Nat) = 0 from e) (by decide)⟩
    · obtain ⟨b, e, f, g⟩ := (ci_bad (G := G) (d := d) q hi k0).1 hn'
      exact ⟨b, e, f, g, fun e => absurd (show (1 : Nat) = 0 from e) (by decide)⟩
    · have n : ∀ x, x ∈ kdL → x < 39 → ¬ kn T (tQ T p) = Int32.ofNat x := fun x hx h39 e => hw x hx ((kn_iff h39).mp e)
      obtain ⟨b, e, f, g⟩ := rc_none (G := G) (d := d2) q (n 12 (by decide) (by decide)) (n 19 (by decide) (by decide)) (n 24 (by decide) (by decide)) (n 31 (by decide) (by decide)) (n 32 (by decide) (by decide))
      exact ⟨b, e, f, g, fun e => absurd (show (1 : Nat) = 0 from e) (by decide)⟩
  by_cases hf : hn h k < pMost k
  · rcases (show k = 0 ∨ k = 1 ∨ k = 2 ∨ k = 3 ∨ k = 4 by omega) with rfl | rfl | rfl | rfl | rfl
    · exact cl_row hp k0 ok (fun i σ hi q qh => ci_P q qh hk hm hf hi k0) (fun σ q qh => rc_P q qh hkn hf) fwd_P (fun hz => Hok_puP hk hf (ok_vP hz)) rfl rfl
    · exact cl_row hp k0 ok (fun i σ hi q qh => ci_S q qh hk hm hf hi k0) (fun σ q qh => rc_S q qh hkn hf) fwd_S (fun hz => Hok_puS hk hf (ok_vS hz)) rfl rfl
    · exact cl_row hp k0 ok (fun i σ hi q qh => ci_L q qh hk hm hf hi k0) (fun σ q qh => rc_L q qh hkn hf) fwd_L (fun hz => Hok_puL hk hf (ok_vL hz)) rfl rfl
    · exact cl_row hp k0 ok (fun i σ hi q qh => ci_N q qh hk hm hf hi k0) (fun σ q qh => rc_N q qh hkn hf) fwd_need (fun hz => Hok_puN hk hf) rfl rfl
    · -- a rule
      have hf : hn h 4 < 4 := hf
      have t3 : tE T p = tQ T p + 3 := by
        have t : ((tKq T (tQ T p) == 1) && wM T (tEq T (tQ T p)) (KW 32) (tQ T p)) = true := htw
        rw [Bool.and_eq_true] at t
        exact ((wM_iff _ _).mp t.2).1
      have cc : ∀ (σ : aH), cHb σ h → (∀ k, k < 5 → ∃ m, σ.1 8 k = Int32.ofNat m) := fun σ qh k hk => ⟨_, qh.1 k hk⟩
      rcases s_rule (G := G) (d := d) (d2 := d2) (base := stH h (hn h 4)) (rd := rdH h (hn h 4)) hT le.2.1 (by omega) (by have := ok.2.1; omega) (by have := ok.2.2; omega) with ⟨c, p', a1, a2, a3, b1, b2⟩ | ⟨p', o, a1, a2, b1, b2⟩
      · refine ⟨(c, p'), h, fun i σ hi q qh => ?_, fun σ q qh => ?_, fun e => absurd e a1⟩
        · obtain ⟨x1, e1, f1, g1⟩ := s_adv (G := G) (d := d + 3) q
          obtain ⟨x2, e2, f2, g2⟩ := b1 x1 g1 (by rw [f1.at (by decide)]; exact qh.2.2.2.2.2.1)
          obtain ⟨b, e, f, g, _⟩ := cR_gen (G := G) (d := d) q (cc σ qh) (qh.1 4 (by decide)) hm hf hi k0 e1 f1 e2 f2 g2
          rw [mNeed_c (s := (c, p')) a1] at g
          exact ⟨b, e, f, g, fun e => absurd e a1⟩
        · obtain ⟨x1, e1, f1, g1⟩ := s_goes (G := G) (d := d2 + 4) q rfl
          obtain ⟨x2, s, e2, f2, g2, hs⟩ := b2 x1 g1 (by rw [f1.2 31 (by omega)]; exact qh.2.2.2.2.2.1)
          obtain ⟨b, e, f, g, _⟩ := rR_gen (G := G) (d := d2) q (qh.1 4 (by decide)) hkn hf e1 f1 e2 f2 g2
          rw [hs] at g
          exact ⟨b, e, f, g, fun e => absurd e a1⟩
      · obtain ⟨o1, o2, o3, o4, o5⟩ := a2
        have le' := tE_le o1
        have gt' := tE_gt o1 (show tK T p' ≠ 0 by have := (tS_iff.mp o2).1; have : tK T p' = 3 := this; omega)
        have mn : mNeed T (tS T (0, p') 59) (0, p') = (0, tE T p') := (if_pos rfl).trans (if_pos o2)
        have hr1 : ∀ j, j < hn h 4 → hR (puR h o) j = hR h j := fun j hj => if_pos hj
        have hr2 : hR (puR h o) (hn h 4) = o := if_neg (Nat.lt_irrefl _)
        have hn4 : hn (puR h o) 4 = hn h 4 + 1 := (hB_at : hB h 4 4 = hn h 4 + 1)
        have st : stH (puR h o) (hn h 4 + 1) = stH h (hn h 4) + o.length := by
          show stH (puR h o) (hn h 4) + (hR (puR h o) (hn h 4)).length = _
          rw [stH_congr (h := h) (h' := puR h o) (hn h 4) hr1, hr2]
        have rt : rdH (puR h o) (hn h 4 + 1) = rdH h (hn h 4) + (rEnc o).length := by
          show rdH (puR h o) (hn h 4) + (rEnc (hR (puR h o) (hn h 4))).length = _
          rw [rdH_congr (h := h) (h' := puR h o) (hn h 4) hr1, hr2]
        refine ⟨(0, tE T p'), puR h o, fun i σ hi q qh => ?_, fun σ q qh => ?_, fun _ => ⟨⟨Hok_puR hk hf o3, ?_, ?_⟩, ?_, le'.2.1⟩⟩
        · obtain ⟨x1, e1, f1, g1⟩ := s_adv (G := G) (d := d + 3) q
          obtain ⟨x2, e2, f2, g2, x7, x10, xp⟩ := b1 x1 g1 (by rw [f1.at (by decide)]; exact qh.2.2.2.2.2.1)
          obtain ⟨b, e, f, g, b8, b9, b9r, b7, b10⟩ := cR_gen (G := G) (d := d) q (cc σ qh) (qh.1 4 (by decide)) hm hf hi k0 e1 f1 e2 f2 g2
          rw [mn] at g
          refine ⟨b, e, f, g, fun _ => cHb_puR qh hk.1 (fun k _ => b8 k) b9 (b9r.trans x7) (by rw [b7]; exact x7) (fun r hr => ?_) (by rw [b10]; exact x10)⟩
          rw [b10]
          have mono : ∀ m n, m ≤ n → stH h m ≤ stH h n := by
            intro m n hmn
            induction n with
            | zero =>
              have : m = 0 := by omega
              rw [this]
              exact Nat.le_refl _
            | succ n ihn =>
              by_cases em : m = n + 1
              · rw [em]
                exact Nat.le_refl _
              · have := ihn (by omega)
                show stH h m ≤ stH h n + (hR h n).length
                omega
          refine pSeg_congr _ _ (fun i h1 h2 => ?_) (qh.2.2.2.2.2.2 r hr).2
          have m1 := mono (r + 1) (hn h 4) (by omega)
          have m2 : stH h (r + 1) = stH h r + (hR h r).length := rfl
          rw [xp i (by omega), f1.at (by decide)]
        · obtain ⟨x1, e1, f1, g1⟩ := s_goes (G := G) (d := d2 + 4) q rfl
          obtain ⟨x2, e2, f2, g2, x31, x46⟩ := b2 x1 g1 (by rw [f1.2 31 (by omega)]; exact qh.2.2.2.2.2.1)
          obtain ⟨b, e, f, g, hb⟩ := rR_gen (G := G) (d := d2) q (qh.1 4 (by decide)) hkn hf e1 f1 e2 f2.wk g2
          obtain ⟨bc, b42, b43, b44, b48, b45, b45n, b31, b46⟩ := hb rfl
          rw [mn] at g
          refine ⟨b, e, f, g, fun _ => rHb_puR qh bc b42 b43 b44 b48 b45 b45n (b31.trans x31) (fun r hr => ?_) (by rw [b46]; exact x46)⟩
          rw [b46]
          have mono : ∀ m n, m ≤ n → rdH h m ≤ rdH h n := by
            intro m n hmn
            induction n with
            | zero =>
              have : m = 0 := by omega
              rw [this]
              exact Nat.le_refl _
            | succ n ihn =>
              by_cases em : m = n + 1
              · rw [em]
                exact Nat.le_refl _
              · have := ihn (by omega)
                show rdH h m ≤ rdH h n + (rEnc (hR h n)).length
                omega
          refine pSeg_congr _ _ (fun i h1 h2 => ?_) (qh.2.2.2.2.2.2 r hr).2
          have m1 := mono (r + 1) (hn h 4) (by omega)
          have m2 : rdH h (r + 1) = rdH h r + (rEnc (hR h r)).length := rfl
          rw [f2.2.2 i (by omega), f1.1.at (by decide)]
        · rw [hn4, st]
          show stH h (hn h 4) + o.length ≤ tE T p'
          omega
        · rw [hn4, rt]
          show 2 * (rdH h (hn h 4) + (rEnc o).length) ≤ 3 * tE T p'
          omega
        · show p < tE T p'
          omega
  · -- full
    refine ⟨(2, p), h, fun i σ hi q qh => ?_, fun σ q qh => ?_, fun e => absurd (show (2 : Nat) = 0 from e) (by decide)⟩
    · have h100 : hn h k < 100 := by
        rcases (show k = 0 ∨ k = 1 ∨ k = 2 ∨ k = 3 ∨ k = 4 by omega) with rfl | rfl | rfl | rfl | rfl <;> omega
      obtain ⟨b, e, f, g⟩ := (ci_bad (G := G) (d := d) q hi k0).2 k hk5 hm (hn h k) (qh.1 k hk5) h100 hf
      exact ⟨b, e, f, g, fun e => absurd (show (2 : Nat) = 0 from e) (by decide)⟩
    · obtain ⟨r0, r1, r2, r3, r4⟩ := rc_full (G := G) (d := d2) q
      have fin : (∃ b, Rn G (d2 + 8) 68 [.ref 33] σ = oV b ∧ rHF σ b ∧ RS b T (2, p)) → ∃ b, Rn G (d2 + 8) 68 [.ref 33] σ = oV b ∧ rHF σ b ∧ RS b T (2, p) ∧ (((2, p) : Nat × Nat).1 = 0 → rHb b h) := fun ⟨b, e, f, g⟩ => ⟨b, e, f, g, fun e => absurd (show (2 : Nat) = 0 from e) (by decide)⟩
      apply fin
      rcases (show k = 0 ∨ k = 1 ∨ k = 2 ∨ k = 3 ∨ k = 4 by omega) with rfl | rfl | rfl | rfl | rfl
      · have hf : ¬ hn h 0 < 20 := hf
        exact r0 hkn ((qh.1 0 (by decide)).trans (by rw [show hn h 0 = 20 by omega]; rfl))
      · have hf : ¬ hn h 1 < 20 := hf
        exact r1 hkn ((qh.1 1 (by decide)).trans (by rw [show hn h 1 = 20 by omega]; rfl))
      · have hf : ¬ hn h 2 < 6 := hf
        exact r2 hkn ((qh.1 2 (by decide)).trans (by rw [show hn h 2 = 6 by omega]; rfl))
      · have hf : ¬ hn h 3 < 12 := hf
        exact r3 hkn ((qh.1 3 (by decide)).trans (by rw [show hn h 3 = 12 by omega]; rfl))
      · have hf : ¬ hn h 4 < 4 := hf
        exact r4 hkn ((qh.1 4 (by decide)).trans (by rw [show hn h 4 = 4 by omega]; rfl))
end PClause
