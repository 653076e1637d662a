/-! ===== a rule, on both sides ===== -/
section PRuleB
variable {G : Nat × (Nat → Int32)} {d d2 : Nat} {σ : aH} {T : Tx} {base rd p : Nat} {pend : List Nat} {out : List Int32} {x1 : Int32}
theorem rRu.wk {a b : aH} (f : rRu rd a b) : rRu 0 a b := ⟨f.1, f.2.1, fun i hi => absurd hi (Nat.not_lt_zero i)⟩
theorem r_close (q : RS σ T (0, p)) (qr : RR σ rd pend out) (hk : okK pend) (hl : rd + (eL out).length + pend.length < 1200) (h0 : 0 < opn pend) (hs : tS T (0, p) 41 = true) {r : List Nat} (hr : poR 1 pend = 0 :: r) : ∃ c, Lq G (d + 5) M_83 (35, [some (.ref 33), some (.int x1), some (.int 1), none], [], σ) = Lq G (d + 5) M_83 (35, [some (.ref 33), some (.int x1), some (.int 1), none], [], c) ∧ rRu rd σ c ∧ RS c T (0, tE T p) ∧ RR c rd r (out ++ poO 1 pend) := by
  obtain ⟨n33, n34⟩ := tS_kn q hs
  have o6 := okK_opn hk
  have eo : opn (0 :: r) = opn pend := by rw [← hr, poR_opn (by decide)]
  have eo : opn r + 1 = opn pend := eo
  have l83 := (okK_84 (poR_ok (b := 1) hk)).1
  obtain ⟨a, e1, fa, a32, a33, a47, a49, a31, a46⟩ := r_dropR (G := G) (d := d + 3) (b := 1) (x1 := 0) (Or.inr ⟨rfl, rfl⟩) (by decide) (by decide) hk qr hl
  obtain ⟨r1, r2, r3, r4, r5, r6, r7⟩ := qr
  rw [hr] at a32 a47 l83
  have a32 : a.1 33 32 = Int32.ofNat (r.length + 1) := a32
  rw [List.length_cons] at l83
  have ft : rQt rd σ (aSI (aSI a 33 32 (Int32.ofNat r.length)) 33 33 (Int32.ofNat (opn r + 1))) := (fa.trans qt_32).trans qt_33
  obtain ⟨c, e3, fc, g⟩ := s_goes (G := G) (d := d + 3) (q.qt ft) rfl
  have t7 : tRs (σ.1 49) (poR 1 pend) := tRs_po (by decide) r7
  rw [hr] at t7
  have t7 : σ.1 49 (opn r + 1) = bI (hsT r) ∧ tRs (σ.1 49) r := t7
  refine ⟨c, ?_, ft.1.trans fc.ru, g, RR.fr ⟨?_, pSI_at, ?_, ?_, ?_, ?_, ?_⟩ fc⟩
  · rw [c_Md_expression_35, if_neg (by decide), s_good (d := d + 4) q, pCI, pB0, if_pos rfl, s_known (d := d + 2) q, pCI, if_neg n33, if_neg n34, s_isSignR (d := d + 4) q, pCI, tS_ne (c' := 60) hs (by decide), if_pos rfl, s_isSignR (d := d + 4) q, pCI, tS_ne (c' := 61) hs (by decide), if_pos rfl, s_isSignR (d := d + 4) q, pCI, tS_ne (c' := 43) hs (by decide), if_pos rfl, s_isSignR (d := d + 4) q, pCI, tS_ne (c' := 45) hs (by decide), if_pos rfl, s_isSignR (d := d + 4) q, pCI, tS_ne (c' := 42) hs (by decide), if_pos rfl, s_isSignR (d := d + 4) q, pCI, tS_ne (c' := 47) hs (by decide), if_pos rfl, s_isSignR (d := d + 4) q, pCI, bI_t hs, if_neg (by decide), r2, if_neg (show ¬ Int32.ofNat (opn pend + 1) ≤ 1 from fun h => absurd ((pN_le (b := 1) (by omega) (by decide)).mp h) (by omega)), e1, pCV, a32, a33, r2, show Int32.ofNat (r.length + 1) - 1 = Int32.ofNat r.length from pS1 (by omega), show Int32.ofNat (opn pend + 1) - 1 = Int32.ofNat (opn r + 1) from (pS1 (by omega)).trans (congrArg Int32.ofNat (by omega)), e3, pCV]
  · rw [pSI_of (by decide), pSI_at]
  · rw [pSI_ne (by decide), pSI_ne (by decide)]
    exact a47.2
  · rw [pSI_of (by decide), pSI_of (by decide), a31]
  · rw [pSI_ne (by decide), pSI_ne (by decide)]
    exact a46
  · rw [pSI_ne (by decide), pSI_ne (by decide), a49]
    exact t7.1
  · rw [pSI_ne (by decide), pSI_ne (by decide), a49]
    exact t7.2
/-- no operator: the expression is at its end -/
theorem r_toEnd (q : RS σ T (0, p)) (qr : RR σ rd pend out) (hk : okK pend) (hc : ¬ (0 < opn pend ∧ tS T (0, p) 41 = true)) (h : tOp T (0, p) = 0 ∨ (opB (tOp T (0, p)) = 4 ∧ hsT pend = true)) : Lq G (d + 5) M_83 (35, [some (.ref 33), some (.int x1), some (.int 1), none], [], σ) = Lq G (d + 5) M_83 (35, [some (.ref 33), some (.int x1), some (.int 0), none], [], σ) := by
  have o6 := okK_opn hk
  obtain ⟨r1, r2, r3, r4, r5, r6, r7⟩ := qr
  have two : ∀ c : Int32, tS T (0, p) c = true → (c = 60 ∨ c = 61) → hsT pend = true → Lq G (d + 5) M_83 (35, [some (.ref 33), some (.int x1), some (.int 1), none], [], σ) = Lq G (d + 5) M_83 (35, [some (.ref 33), some (.int x1), some (.int 0), none], [], σ) := by
    intro c hs hcc ht
    obtain ⟨n33, n34⟩ := tS_kn q hs
    have n49 : ¬ σ.1 49 (opn pend + 1) = 0 := by
      rw [r6, ht]
      decide
    rcases hcc with rfl | rfl
    · rw [c_Md_expression_35, if_neg (by decide), s_good (d := d + 4) q, pCI, pB0, if_pos rfl, s_known (d := d + 2) q, pCI, if_neg n33, if_neg n34, s_isSignR (d := d + 4) q, pCI, bI_t hs, if_neg (by decide), r2, pIx (by omega) (by decide), if_neg n49, s_isSignR (d := d + 4) q, pCI, tS_ne (c' := 43) hs (by decide), if_pos rfl, s_isSignR (d := d + 4) q, pCI, tS_ne (c' := 45) hs (by decide), if_pos rfl, s_isSignR (d := d + 4) q, pCI, tS_ne (c' := 42) hs (by decide), if_pos rfl, s_isSignR (d := d + 4) q, pCI, tS_ne (c' := 47) hs (by decide), if_pos rfl, s_isSignR (d := d + 4) q, pCI, tS_ne (c' := 41) hs (by decide), if_pos rfl]
    · rw [c_Md_expression_35, if_neg (by decide), s_good (d := d + 4) q, pCI, pB0, if_pos rfl, s_known (d := d + 2) q, pCI, if_neg n33, if_neg n34, s_isSignR (d := d + 4) q, pCI, tS_ne (c' := 60) hs (by decide), if_pos rfl, s_isSignR (d := d + 4) q, pCI, bI_t hs, if_neg (by decide), r2, pIx (by omega) (by decide), if_neg n49, s_isSignR (d := d + 4) q, pCI, tS_ne (c' := 43) hs (by decide), if_pos rfl, s_isSignR (d := d + 4) q, pCI, tS_ne (c' := 45) hs (by decide), if_pos rfl, s_isSignR (d := d + 4) q, pCI, tS_ne (c' := 42) hs (by decide), if_pos rfl, s_isSignR (d := d + 4) q, pCI, tS_ne (c' := 47) hs (by decide), if_pos rfl, s_isSignR (d := d + 4) q, pCI, tS_ne (c' := 41) hs (by decide), if_pos rfl]
  rcases tOp_split T (0, p) with ⟨e, hs⟩ | ⟨e, hs⟩ | ⟨e, hs⟩ | ⟨e, hs⟩ | ⟨e, hs⟩ | ⟨e, hs⟩ | ⟨e, hs⟩ | ⟨e, hs⟩ | ⟨e, h0, h1, h2, h3, h4, h5, h6, h7⟩
  · exact two 60 hs (Or.inl rfl) (h.resolve_left (by omega)).2
  · exact two 61 hs (Or.inr rfl) (h.resolve_left (by omega)).2
  · rw [e] at h
    exact absurd (h.resolve_left (by decide)).1 (by decide)
  · rw [e] at h
    exact absurd (h.resolve_left (by decide)).1 (by decide)
  · rw [e] at h
    exact absurd (h.resolve_left (by decide)).1 (by decide)
  · rw [e] at h
    exact absurd (h.resolve_left (by decide)).1 (by decide)
  · rw [e] at h
    exact absurd (h.resolve_left (by decide)).1 (by decide)
  · rw [e] at h
    exact absurd (h.resolve_left (by decide)).1 (by decide)
  · have n33 : ¬ kn T (tQ T (0, p).2) = 33 := fun e => h7 ((s_knW q (x := 33) (by decide) rfl).mp e)
    have n34 : ¬ kn T (tQ T (0, p).2) = 34 := fun e => h6 ((s_knW q (x := 34) (by decide) rfl).mp e)
    rw [c_Md_expression_35, if_neg (by decide), s_good (d := d + 4) q, pCI, pB0, if_pos rfl, s_known (d := d + 2) q, pCI, if_neg n33, if_neg n34, s_isSignR (d := d + 4) q, pCI, bI_f h0, if_pos rfl, s_isSignR (d := d + 4) q, pCI, bI_f h1, if_pos rfl, s_isSignR (d := d + 4) q, pCI, bI_f h2, if_pos rfl, s_isSignR (d := d + 4) q, pCI, bI_f h3, if_pos rfl, s_isSignR (d := d + 4) q, pCI, bI_f h4, if_pos rfl, s_isSignR (d := d + 4) q, pCI, bI_f h5, if_pos rfl, s_isSignR (d := d + 4) q, pCI]
    by_cases h41 : tS T (0, p) 41 = true
    · have o0 : opn pend = 0 := by
        by_cases h : 0 < opn pend
        · exact absurd ⟨h, h41⟩ hc
        · omega
      rw [bI_t h41, if_neg (by decide), r2, o0, if_pos (show Int32.ofNat (0 + 1) ≤ 1 from Int32.le_refl 1)]
    · rw [bI_f h41, if_pos rfl]
/-- behind a fault -/
theorem r_endF {s : Nat × Nat} {x2 : Int32} (h2 : x2 = 0 ∨ x2 = 1) (q : RF σ T s) : ∃ b, Lq G (d + 5) M_83 (35, [some (.ref 33), some (.int x1), some (.int x2), none], [], σ) = oI x1 b ∧ rRu 0 σ b ∧ RS b T s := by
  obtain ⟨q1, h, w, r, e32, e31, hw, hr⟩ := q
  obtain ⟨a, r', ea, fa, a31, hr', _⟩ := r_dropA (G := G) (d := d + 3) (rd := 0) (x1 := 0) w r σ e32 e31 (by omega) hr (Nat.zero_le r)
  have ea' : Rn G (d + 5) 90 [.ref 33, .int 0] σ = oV a := by rw [e_Md_drops, ea]
  have ft : rQt 0 σ (aSI (aSI a 46 r' 0) 33 31 (Int32.ofNat (r' + 1))) := fa.trans (qt_put (Nat.zero_le r'))
  refine ⟨_, ?_, ft.1, q1.qt ft⟩
  rw [c_Md_expression_35]
  rcases h2 with rfl | rfl
  · rw [if_pos rfl, s_good (d := d + 4) q1, pCI, pB0, if_neg h, ea', pCV, r_put a31 (by omega), pCV]
  · rw [if_neg (by decide), s_good (d := d + 4) q1, pCI, pB0, if_neg h, s_good (d := d + 4) q1, pCI, pB0, if_neg h, ea', pCV, r_put a31 (by omega), pCV]
theorem r_end0 (q : RS σ T (0, p)) (qr : RR σ rd pend out) (hk : okK pend) (hl : rd + (eL out).length + pend.length + 1 < 1200) : (opn pend = 0 → ∃ b, Lq G (d + 5) M_83 (35, [some (.ref 33), some (.int x1), some (.int 0), none], [], σ) = oI x1 b ∧ rRu rd σ b ∧ RS b T (0, p) ∧ b.1 33 31 = Int32.ofNat (rd + (rEnc (out ++ poO 1 pend)).length) ∧ pSeg (b.1 46) rd (rEnc (out ++ poO 1 pend))) ∧ (0 < opn pend → ∃ b, Lq G (d + 5) M_83 (35, [some (.ref 33), some (.int x1), some (.int 0), none], [], σ) = oI x1 b ∧ rRu 0 σ b ∧ RS b T (1, p)) := by
  have o6 := okK_opn hk
  have l83 := okK_84 hk
  constructor
  · intro h0
    obtain ⟨a, e1, fa, a32, a33, a47, a49, a31, a46⟩ := r_dropR (G := G) (d := d + 3) (b := 1) (x1 := 0) (Or.inr ⟨rfl, rfl⟩) (by decide) (by decide) hk qr (by omega)
    have lo : (eL (out ++ poO 1 pend)).length ≤ (eL out).length + pend.length := by
      rw [eL_app, List.length_append]
      have : ∀ l : List Nat, okK l → (eL (poO 1 l)).length ≤ l.length := by
        intro l
        induction l with
        | nil => intro _; exact Nat.le_refl 0
        | cons x r ih =>
          intro hl
          show (eL (if 1 ≤ opB x then (-(Int32.ofNat x)) :: poO 1 r else [])).length ≤ r.length + 1
          by_cases hx : 1 ≤ opB x
          · have x0 : 0 < x := by
              rcases Nat.eq_zero_or_pos x with e | e
              · rw [e, opB_0] at hx
                omega
              · exact e
            have el : eL (-(Int32.ofNat x) :: poO 1 r) = cdO x :: eL (poO 1 r) := by
              have := eL_app [-(Int32.ofNat x)] (poO 1 r)
              rw [eL_neg hl.2.1 x0] at this
              exact this
            rw [if_pos hx, el, List.length_cons]
            have := ih hl.1
            omega
          · rw [if_neg hx]
            exact Nat.zero_le _
      have := this pend hk
      omega
    have ft : rQt rd σ (aSI (aSI a 46 (rd + (eL (out ++ poO 1 pend)).length) 0) 33 31 (Int32.ofNat (rd + (eL (out ++ poO 1 pend)).length + 1))) := fa.trans (qt_put (by omega))
    refine ⟨_, ?_, ft.1, q.qt ft, ?_, ?_⟩
    · rw [c_Md_expression_35, if_pos rfl, s_good (d := d + 4) q, pCI, pB0, if_pos rfl, qr.2.1, h0, if_pos (show Int32.ofNat (0 + 1) ≤ 1 from Int32.le_refl 1), e1, pCV, r_put a31 (by omega), pCV]
    · rw [pSI_at, eL_enc, List.length_append]
      rfl
    · rw [eL_enc, pSI_ne (by decide)]
      exact (pSeg_app _ _ _).mpr ⟨pSeg_congr _ _ (fun i h1 h2 => pSI_of (by omega)) a46, pSI_at, trivial⟩
  · intro h0
    obtain ⟨b, e, f, g⟩ := s_wrong (G := G) (d := d + 4) q (x := 1) (c := 1) rfl (by decide) (by decide)
    have g' : RS b T (1, p) := g
    have qb : RR b rd pend out := qr.fr f
    obtain ⟨a, r', ea, fa, a31, hr', _⟩ := r_dropA (G := G) (d := d + 3) (rd := 0) (x1 := 0) pend.length (rd + (eL out).length) b qb.1 qb.2.2.2.1 (by omega) (by omega) (Nat.zero_le _)
    have ea' : Rn G (d + 5) 90 [.ref 33, .int 0] b = oV a := by rw [e_Md_drops, ea]
    have ft : rQt 0 b (aSI (aSI a 46 r' 0) 33 31 (Int32.ofNat (r' + 1))) := fa.trans (qt_put (Nat.zero_le r'))
    refine ⟨_, ?_, (rFr.ru f).trans ft.1, g'.qt ft⟩
    rw [c_Md_expression_35, if_pos rfl, s_good (d := d + 4) q, pCI, pB0, if_pos rfl, qr.2.1, if_neg (show ¬ Int32.ofNat (opn pend + 1) ≤ 1 from fun h => absurd ((pN_le (b := 1) (by omega) (by decide)).mp h) (by omega)), e, pCV, ea', pCV, r_put a31 (by omega), pCV]
/-- an operand is called for -/
theorem r_86 {may : Bool} (q : RS σ T (0, p)) (hn : nts pend = 0) : Rn G (d + 5) 86 [.ref 33, .int (bI may)] σ = Lq G (d + 4) M_86 (18, [some (.ref 33), none, some (.int (bI may)), none, some (.int (Int32.ofNat (nts pend)))], [], σ) := by
  rw [e_Md_operand, r_4 q rfl, hn]
  rfl
end PRuleB
