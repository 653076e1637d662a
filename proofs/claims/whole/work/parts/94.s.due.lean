/-! ===== an operand, on both sides ===== -/
def okE (T : Tx) (base rd p : Nat) (pend : List Nat) (out : List Int32) (due may : Bool) : Prop := okK pend ∧ p ≤ T.1 ∧ (due = true → may = true → tpB pend ≤ 3) ∧ pTo out 0 (bns pend + (if due = true then 0 else 1)) ∧ base + out.length + pend.length ≤ p ∧ 2 * (rd + (eL out).length + pend.length) ≤ 3 * p + (if due = true then 0 else 1)
def dBad (G : Nat × (Nat → Int32)) (d d2 : Nat) (T : Tx) (base rd p : Nat) (pend : List Nat) (out : List Int32) (may : Bool) (c p' : Nat) : Prop := (∀ i σ, i + 3 ≤ p → CE σ T base p pend out true may → ∃ b j, Lq G (d + 9) M_43 (27, [some (.ref 11), some (.ref 1), some (.ref 7), some (.int (Int32.ofNat i))], [], σ) = Lq G (d + 9) M_43 (27, [some (.ref 11), some (.ref 1), some (.ref 7), some (.int (Int32.ofNat j))], [], b) ∧ pSame sp5 σ b ∧ CS b T (c, p')) ∧ ∀ σ, RS σ T (0, p) → RR σ rd pend out → ∃ b, Lq G (d2 + 4) M_86 (18, [some (.ref 33), none, some (.int (bI may)), none, some (.int (Int32.ofNat (nts pend)))], [], σ) = oV b ∧ rRu rd σ b ∧ RF b T (c, p')
def dOk (G : Nat × (Nat → Int32)) (d d2 : Nat) (T : Tx) (base rd p : Nat) (pend : List Nat) (out : List Int32) (may : Bool) (p' : Nat) (pend' : List Nat) (out' : List Int32) (may' : Bool) : Prop := (∀ i σ, i + 3 ≤ p → CE σ T base p pend out true may → ∃ b j, Lq G (d + 9) M_43 (27, [some (.ref 11), some (.ref 1), some (.ref 7), some (.int (Int32.ofNat i))], [], σ) = Lq G (d + 9) M_43 (27, [some (.ref 11), some (.ref 1), some (.ref 7), some (.int (Int32.ofNat j))], [], b) ∧ j + 3 ≤ p' ∧ pSame sp5 σ b ∧ CE b T base p' pend' out' false may' ∧ ∀ i, i < base → b.1 10 i = σ.1 10 i) ∧ ∀ σ, RS σ T (0, p) → RR σ rd pend out → ∃ b, Lq G (d2 + 4) M_86 (18, [some (.ref 33), none, some (.int (bI may)), none, some (.int (Int32.ofNat (nts pend)))], [], σ) = oV b ∧ rRu rd σ b ∧ RS b T (0, p') ∧ RR b rd pend' out'
theorem okK_nts : ∀ {l : List Nat}, okK l → nts l ≤ 6
  | [], _ => Nat.zero_le 6
  | x :: r, h => by
    show (if x = 3 then nts r + 1 else 0) ≤ 6
    by_cases e : x = 3
    · rw [if_pos e]
      have := (h.2.2.2.1 e).2
      omega
    · rw [if_neg e]
      omega
section PDue
variable {G : Nat × (Nat → Int32)} {d d2 : Nat} {T : Tx} {base rd : Nat}
/-- a step, then the rest -/
theorem due_step {p p1 : Nat} {pend pend1 : List Nat} {out out1 : List Int32} {may may1 : Bool} (hT : T.1 ≤ 700) (hk : okK pend) (hp : p < p1) (hpT : p ≤ T.1) (cs : ∀ σ, CE σ T base p pend out true may → cOkE G d 46 T base p1 pend1 out1 true may1 σ) (rs : ∀ σ, RS σ T (0, p) → RR σ rd pend out → ∃ a, Lq G (d2 + 4) M_86 (18, [some (.ref 33), none, some (.int (bI may)), none, some (.int (Int32.ofNat (nts pend)))], [], σ) = Lq G (d2 + 4) M_86 (18, [some (.ref 33), none, some (.int (bI may1)), none, some (.int (Int32.ofNat (nts pend1)))], [], a) ∧ rRu rd σ a ∧ RS a T (0, p1) ∧ RR a rd pend1 out1) : (∀ c p', dBad G d d2 T base rd p1 pend1 out1 may1 c p' → dBad G d d2 T base rd p pend out may c p') ∧ ∀ p' pend' out' may', dOk G d d2 T base rd p1 pend1 out1 may1 p' pend' out' may' → dOk G d d2 T base rd p pend out may p' pend' out' may' := by
  constructor
  · intro c p' ⟨h1, h2⟩
    refine ⟨fun i σ hi q => ?_, fun σ q qr => ?_⟩
    · obtain ⟨a, ga, fa, qa, _⟩ := cs σ q
      obtain ⟨b, j, e, f, g⟩ := h1 (i + 1) a (by omega) qa
      exact ⟨b, j, (c27_due q hk (by omega) ga).trans e, fa.trans f, g⟩
    · obtain ⟨a, ea, fa, qa, ra⟩ := rs σ q qr
      obtain ⟨b, e, f, g⟩ := h2 a qa ra
      exact ⟨b, ea.trans e, fa.trans f, g⟩
  · intro p' pend' out' may' ⟨h1, h2⟩
    refine ⟨fun i σ hi q => ?_, fun σ q qr => ?_⟩
    · obtain ⟨a, ga, fa, qa, ha⟩ := cs σ q
      obtain ⟨b, j, e, hj, f, g, hb⟩ := h1 (i + 1) a (by omega) qa
      exact ⟨b, j, (c27_due q hk (by omega) ga).trans e, hj, fa.trans f, g, fun i hi => (hb i hi).trans (ha i hi)⟩
    · obtain ⟨a, ea, fa, qa, ra⟩ := rs σ q qr
      obtain ⟨b, e, f, g⟩ := h2 a qa ra
      exact ⟨b, ea.trans e, fa.trans f, g⟩
theorem bad_step {p c p' : Nat} {pend : List Nat} {out : List Int32} {may : Bool} (hT : T.1 ≤ 700) (hk : okK pend) (hpT : p ≤ T.1) (cs : ∀ σ, CE σ T base p pend out true may → cBad G d 46 T (c, p') σ) (rs : ∀ σ, RS σ T (0, p) → RR σ rd pend out → ∃ a, Lq G (d2 + 4) M_86 (18, [some (.ref 33), none, some (.int (bI may)), none, some (.int (Int32.ofNat (nts pend)))], [], σ) = oV a ∧ rRu rd σ a ∧ RF a T (c, p')) : dBad G d d2 T base rd p pend out may c p' := by
  refine ⟨fun i σ hi q => ?_, rs⟩
  obtain ⟨b, gb, fb, qb⟩ := cs σ q
  exact ⟨b, i + 1, c27_due q hk (by omega) gb, fb, qb⟩
theorem op_due (hT : T.1 ≤ 700) : ∀ (n p : Nat) (pend : List Nat) (out : List Int32) (may : Bool), T.1 - p < n → okE T base rd p pend out true may → opn pend < 6 → (∃ c p', c ≠ 0 ∧ p ≤ p' ∧ p' ≤ T.1 ∧ dBad G d d2 T base rd p pend out may c p') ∨ ∃ p' pend' out' may', p < p' ∧ okE T base rd p' pend' out' false may' ∧ opn pend' < 6 ∧ dOk G d d2 T base rd p pend out may p' pend' out' may' := by
  intro n
  induction n with
  | zero => intro p _ _ _ h; exact absurd h (Nat.not_lt_zero _)
  | succ n ih =>
    intro p pend out may hn ho h6
    have ho' := ho
    obtain ⟨hk, hp, hm, hpt, hl, hr⟩ := ho
    rw [if_pos rfl] at hpt hr
    have l83 := okK_84 hk
    have le := tE_le hp
    by_cases h40 : tS T (0, p) 40 = true
    · have k3 : tK T p = 3 := (tS_iff.mp h40).1
      have gt := tE_gt hp (show tK T p ≠ 0 by omega)
      have ok1 : okE T base rd (tE T p) (0 :: pend) out true true := by
        refine ⟨⟨hk, by decide, fun _ => h6, fun e => absurd e (by decide), fun e => absurd rfl e⟩, le.2.1, fun _ _ => Nat.zero_le 3, ?_, ?_, ?_⟩
        · rw [if_pos rfl]
          exact hpt
        · rw [List.length_cons]
          omega
        · rw [if_pos rfl, List.length_cons]
          omega
      by_cases h5 : opn pend < 5
      · obtain ⟨st1, st2⟩ := due_step (G := G) (d := d) (d2 := d2) (base := base) (rd := rd) (out := out) (out1 := out) (may := may) (may1 := true) (pend1 := 0 :: pend) hT hk gt hp (fun σ q => c_open q hk h6 h40) (fun σ q qr => r_open q qr hk h5 h40)
        rcases ih (tE T p) (0 :: pend) out true (by omega) ok1 (by show opn pend + 1 < 6; omega) with ⟨c, p', a1, a2, a3, a4⟩ | ⟨p', pend', out', may', a1, a2, a2b, a3⟩
        · exact Or.inl ⟨c, p', a1, by omega, a3, st1 _ _ a4⟩
        · exact Or.inr ⟨p', pend', out', may', by omega, a2, a2b, st2 _ _ _ _ a3⟩
      · refine Or.inl ⟨if tS T (0, tE T p) 40 = true ∨ tK T (tE T p) = 2 ∨ tK T (tE T p) = 1 then 2 else 1, tE T p, by split <;> decide, by omega, le.2.1, fun i σ hi q => ?_, fun σ q qr => ?_⟩
        · obtain ⟨a, ga, fa, qa, _⟩ := c_open (G := G) (d := d) q hk h6 h40
          obtain ⟨b, gb, fb, qb⟩ := c_deep (G := G) (d := d) qa ok1.1 (by show ¬ opn pend + 1 < 6; omega)
          exact ⟨b, i + 1 + 1, (c27_due q hk (by omega) ga).trans (c27_due qa ok1.1 (by omega) gb), fa.trans fb, qb⟩
        · exact r_open5 q qr hk (by omega) h40 (by omega)
    · by_cases h35 : may = true ∧ tW T (0, p) 35 = true
      · obtain ⟨hmay, hw⟩ := h35
        subst hmay
        have k1 : tK T p = 1 := tW_k hw
        have gt := tE_gt hp (show tK T p ≠ 0 by omega)
        have n6 := okK_nts hk
        by_cases hf : nts pend < 6
        · have ok1 : okE T base rd (tE T p) (3 :: pend) out true true := by
            refine ⟨⟨hk, by decide, fun e => absurd e (by decide), fun _ => ⟨hm rfl rfl, hf⟩, fun _ e => absurd rfl e⟩, le.2.1, fun _ _ => Nat.le_refl 3, ?_, ?_, ?_⟩
            · rw [if_pos rfl]
              exact hpt
            · rw [List.length_cons]
              omega
            · rw [if_pos rfl, List.length_cons]
              omega
          obtain ⟨st1, st2⟩ := due_step (G := G) (d := d) (d2 := d2) (base := base) (rd := rd) (out := out) (out1 := out) (may := true) (may1 := true) (pend1 := 3 :: pend) hT hk gt hp (fun σ q => c_not q hk h6 h40 hw hf) (fun σ q qr => r_not q qr hk hw hf)
          rcases ih (tE T p) (3 :: pend) out true (by omega) ok1 h6 with ⟨c, p', a1, a2, a3, a4⟩ | ⟨p', pend', out', may', a1, a2, a2b, a3⟩
          · exact Or.inl ⟨c, p', a1, by omega, a3, st1 _ _ a4⟩
          · exact Or.inr ⟨p', pend', out', may', by omega, a2, a2b, st2 _ _ _ _ a3⟩
        · exact Or.inl ⟨2, p, by decide, Nat.le_refl p, hp, bad_step hT hk hp (fun σ q => c_notFull q hk h6 h40 hw hf) (fun σ q qr => r_notFull q qr hk hw (by omega) (by omega))⟩
      · by_cases hg : (tK T p = 2 ∧ tN T p ≤ 9999) ∨ (tK T p = 1 ∧ 0 ≤ mWh T (0, p) nmL)
        · obtain ⟨v, hv, v0, v1⟩ : ∃ v, ((tK T p = 2 ∧ tN T p ≤ 9999 ∧ v = tN T p) ∨ (tK T p = 1 ∧ 0 ≤ mWh T (0, p) nmL ∧ v = 10000 + mWh T (0, p) nmL)) ∧ 0 ≤ v ∧ v < 10012 := by
            rcases hg with ⟨a, b⟩ | ⟨a, b⟩
            · obtain ⟨x, hx, ex⟩ := (tN_nat a).1 ((tN_nat a).2.mp b)
              exact ⟨tN T p, Or.inl ⟨a, b, rfl⟩, by rw [ex]; exact pN_0 (by omega), by rw [ex]; exact (pN_lt (b := 10012) (by omega) (by decide)).mpr (by omega)⟩
            · obtain ⟨k, hk', ek, _⟩ := nm_kn.1 b
              have ad : (10000 : Int32) + Int32.ofNat k = Int32.ofNat (10000 + k) := (Int32.ofNat_add 10000 k).symm
              exact ⟨10000 + mWh T (0, p) nmL, Or.inr ⟨a, b, rfl⟩, by rw [ek, ad]; exact pN_0 (by omega), by rw [ek, ad]; exact (pN_lt (b := 10012) (by omega) (by decide)).mpr (by omega)⟩
          have gt := tE_gt hp (show tK T p ≠ 0 by rcases hg with h | h <;> omega)
          have e2 : (eL (out ++ [v])).length = (eL out).length + 2 := by
            rw [eL_app, List.length_append, eL_one v0]
            split <;> rfl
          refine Or.inr ⟨tE T p, pend, out ++ [v], may, gt, ⟨hk, le.2.1, fun e => absurd e (by decide), ?_, ?_, ?_⟩, h6, fun i σ hi q => ?_, fun σ q qr => ?_⟩
          · rw [if_neg (by decide)]
            refine pTo_app _ _ _ _ _ hpt ?_
            show if 0 ≤ v then v < 10012 ∧ bns pend + 0 < 64 ∧ bns pend + 0 + 1 = bns pend + 1 else _
            rw [if_pos v0]
            exact ⟨v1, by omega, rfl⟩
          · rw [List.length_append]
            show base + (out.length + 1) + pend.length ≤ _
            omega
          · rw [e2, if_neg (by decide)]
            omega
          · obtain ⟨b, gb, fb, qb, hb⟩ := c_part (G := G) (d := d) q hk h6 h40 h35 (by omega) hv
            exact ⟨b, i + 1, c27_due q hk (by omega) gb, by omega, fb, qb, hb⟩
          · obtain ⟨a, ea, fa, qa, ra⟩ := r_part (G := G) (d := d2) q qr (by omega) hv
            rw [r_toPart q h40 h35, ea, pCV]
            exact ⟨a, rfl, fa, qa, ra⟩
        · have hb : (tK T p = 2 → ¬ tN T p ≤ 9999) ∧ (tK T p = 1 → ¬ 0 ≤ mWh T (0, p) nmL) := ⟨fun a b => hg (Or.inl ⟨a, b⟩), fun a b => hg (Or.inr ⟨a, b⟩)⟩
          have ne : (if tK T p = 2 then 2 else if tK T p = 1 then 3 else 1) ≠ 0 := by
            repeat' split
            all_goals decide
          refine Or.inl ⟨if tK T p = 2 then 2 else if tK T p = 1 then 3 else 1, p, ne, Nat.le_refl p, hp, bad_step hT hk hp (fun σ q => c_partBad q hk h6 h40 h35 hb) (fun σ q qr => ?_)⟩
          obtain ⟨a, ea, fa, ra⟩ := r_partBad (G := G) (d := d2) q qr (by omega) (by omega) hb
          rw [r_toPart q h40 h35, ea, pCV]
          exact ⟨a, rfl, fa, ra⟩
end PDue
