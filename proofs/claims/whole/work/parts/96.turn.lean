/-! ===== a turn of the law: all calls (by wip/gen/emit_end.py) ===== -/
section PTurn
variable {G : Nat × (Nat → Int32)} {i : Nat} {σ : aH} {m : St}
theorem lw_sub (X : Int32) (h6 : 6 ≤ G.1) (hG : G.1 ≤ 3072) : (Int32.ofNat G.1 - 6).toInt = (G.1 : Int) - 6 := by
  have e6 : (6 : Int32).toInt = 6 := rfl
  have e := pN_int (n := G.1) (by omega)
  rw [pI_sub (by rw [e, e6]; omega) (by rw [e, e6]; omega), e, e6]

theorem lw_in (hi : i + 6 ≤ G.1) (hG : G.1 ≤ 3072) : ¬ (Int32.ofNat G.1 - 6) < Int32.ofNat i := by
  rw [pLt, lw_sub 0 (by omega) hG, pN_int (by omega)]
  omega
theorem lw_out (hi : i ≤ G.1) (h : ¬ i + 6 ≤ G.1) (hG : G.1 ≤ 3072) : (Int32.ofNat G.1 - 6) < Int32.ofNat i := by
  have e6 : (6 : Int32).toInt = 6 := rfl
  have e := pN_int (n := G.1) (by omega)
  rw [pLt, pN_int (by omega), pI_sub (by rw [e, e6]; omega) (by rw [e, e6]; omega), e, e6]
  omega
theorem lw_full (n w : Nat) (st : aSt) : aUgW 23 (tkd G.1 G.2) tmi (aRunW (tkd G.1 G.2) tmi tmt 60) M_law n w st = LT cd_law G n w st := rfl
theorem lw_in1 {cd : List (Nat × aEn)} (h : ∀ q, q ∈ cd → q ∈ cd_law) : ∀ q, q ∈ cdL_h ++ (cd ++ cdL_e) → q ∈ cd_law := by
  intro q hq
  rcases List.mem_append.mp hq with h1 | h1
  · exact cdL_in_h h1
  · rcases List.mem_append.mp h1 with h2 | h2
    · exact h q h2
    · exact cdL_in_e h2
theorem lw_in2 : ∀ q, q ∈ cdL_h ++ cdL_e → q ∈ cd_law := by
  intro q hq
  rcases List.mem_append.mp hq with h1 | h1
  · exact cdL_in_h h1
  · exact cdL_in_e h1
/-- a turn's end: what a call's stretch gives, the whole law's code gives -/
theorem lw_fin {cd : List (Nat × aEn)} (h : ∀ q, q ∈ cd → q ∈ cd_law) {pc : Nat} (he : LT (cdL_h ++ (cd ++ cdL_e)) G 200 1 (lwSt i σ) = LT (cdL_h ++ (cd ++ cdL_e)) G 188 1 (pc, [some (.ref 130), some (.ref 0), some (.ref 33), some (.ref 63), some (.int (Int32.ofNat i)), none, none], [], σ)) {m' : St} (r : ∃ σ', LT (cdL_h ++ (cd ++ cdL_e)) G 188 1 (pc, [some (.ref 130), some (.ref 0), some (.ref 33), some (.ref 63), some (.int (Int32.ofNat i)), none, none], [], σ) = some (.inl (lwSt (i + 6) σ')) ∧ Iv σ' m') : ∃ σ', lwTurn G i σ = some (.inl (lwSt (i + 6) σ')) ∧ ∃ m', Iv σ' m' := by
  obtain ⟨σ', r1, I'⟩ := r
  exact ⟨σ', LT_mono (lw_in1 h) 200 1 _ _ (he.trans r1), m', I'⟩
theorem g_0 (hi : i + 6 ≤ G.1) (hG : G.1 ≤ 3072) (hv : G.2 i &&& 63 = 0) : LT (cdL_h ++ (cdL_0 ++ cdL_e)) G 200 1 (lwSt i σ) = LT (cdL_h ++ (cdL_0 ++ cdL_e)) G 188 1 (188, [some (.ref 130), some (.ref 0), some (.ref 33), some (.ref 63), some (.int (Int32.ofNat i)), none, none], [], σ) := by
  show LT (cdL_h ++ (cdL_0 ++ cdL_e)) G 200 1 (23, [some (.ref 130), some (.ref 0), some (.ref 33), some (.ref 63), some (.int (Int32.ofNat i)), none, none], [], σ) = _
  rw [lw_head, if_neg (lw_in hi hG), pIx (show i < G.1 by omega) (show G.1 < 2147483648 by omega), hv, if_pos rfl]
theorem g_1 (hi : i + 6 ≤ G.1) (hG : G.1 ≤ 3072) (hv : G.2 i &&& 63 = 1) : LT (cdL_h ++ (cdL_1 ++ cdL_e)) G 200 1 (lwSt i σ) = LT (cdL_h ++ (cdL_1 ++ cdL_e)) G 188 1 (261, [some (.ref 130), some (.ref 0), some (.ref 33), some (.ref 63), some (.int (Int32.ofNat i)), none, none], [], σ) := by
  show LT (cdL_h ++ (cdL_1 ++ cdL_e)) G 200 1 (23, [some (.ref 130), some (.ref 0), some (.ref 33), some (.ref 63), some (.int (Int32.ofNat i)), none, none], [], σ) = _
  rw [lw_head, if_neg (lw_in hi hG), pIx (show i < G.1 by omega) (show G.1 < 2147483648 by omega), hv, if_neg (by decide), if_pos rfl]
theorem g_2 (hi : i + 6 ≤ G.1) (hG : G.1 ≤ 3072) (hv : G.2 i &&& 63 = 2) : LT (cdL_h ++ (cdL_2 ++ cdL_e)) G 200 1 (lwSt i σ) = LT (cdL_h ++ (cdL_2 ++ cdL_e)) G 188 1 (317, [some (.ref 130), some (.ref 0), some (.ref 33), some (.ref 63), some (.int (Int32.ofNat i)), none, none], [], σ) := by
  show LT (cdL_h ++ (cdL_2 ++ cdL_e)) G 200 1 (23, [some (.ref 130), some (.ref 0), some (.ref 33), some (.ref 63), some (.int (Int32.ofNat i)), none, none], [], σ) = _
  rw [lw_head, if_neg (lw_in hi hG), pIx (show i < G.1 by omega) (show G.1 < 2147483648 by omega), hv, if_neg (by decide), if_neg (by decide), if_pos rfl]
theorem g_3 (hi : i + 6 ≤ G.1) (hG : G.1 ≤ 3072) (hv : G.2 i &&& 63 = 3) : LT (cdL_h ++ (cdL_3 ++ cdL_e)) G 200 1 (lwSt i σ) = LT (cdL_h ++ (cdL_3 ++ cdL_e)) G 188 1 (373, [some (.ref 130), some (.ref 0), some (.ref 33), some (.ref 63), some (.int (Int32.ofNat i)), none, none], [], σ) := by
  show LT (cdL_h ++ (cdL_3 ++ cdL_e)) G 200 1 (23, [some (.ref 130), some (.ref 0), some (.ref 33), some (.ref 63), some (.int (Int32.ofNat i)), none, none], [], σ) = _
  rw [lw_head, if_neg (lw_in hi hG), pIx (show i < G.1 by omega) (show G.1 < 2147483648 by omega), hv, if_neg (by decide), if_neg (by decide), if_neg (by decide), if_pos rfl]
theorem g_4 (hi : i + 6 ≤ G.1) (hG : G.1 ≤ 3072) (hv : G.2 i &&& 63 = 4) : LT (cdL_h ++ (cdL_4 ++ cdL_e)) G 200 1 (lwSt i σ) = LT (cdL_h ++ (cdL_4 ++ cdL_e)) G 188 1 (386, [some (.ref 130), some (.ref 0), some (.ref 33), some (.ref 63), some (.int (Int32.ofNat i)), none, none], [], σ) := by
  show LT (cdL_h ++ (cdL_4 ++ cdL_e)) G 200 1 (23, [some (.ref 130), some (.ref 0), some (.ref 33), some (.ref 63), some (.int (Int32.ofNat i)), none, none], [], σ) = _
  rw [lw_head, if_neg (lw_in hi hG), pIx (show i < G.1 by omega) (show G.1 < 2147483648 by omega), hv, if_neg (by decide), if_neg (by decide), if_neg (by decide), if_neg (by decide), if_pos rfl]
theorem g_5 (hi : i + 6 ≤ G.1) (hG : G.1 ≤ 3072) (hv : G.2 i &&& 63 = 5) : LT (cdL_h ++ (cdL_5 ++ cdL_e)) G 200 1 (lwSt i σ) = LT (cdL_h ++ (cdL_5 ++ cdL_e)) G 188 1 (442, [some (.ref 130), some (.ref 0), some (.ref 33), some (.ref 63), some (.int (Int32.ofNat i)), none, none], [], σ) := by
  show LT (cdL_h ++ (cdL_5 ++ cdL_e)) G 200 1 (23, [some (.ref 130), some (.ref 0), some (.ref 33), some (.ref 63), some (.int (Int32.ofNat i)), none, none], [], σ) = _
  rw [lw_head, if_neg (lw_in hi hG), pIx (show i < G.1 by omega) (show G.1 < 2147483648 by omega), hv, if_neg (by decide), if_neg (by decide), if_neg (by decide), if_neg (by decide), if_neg (by decide), if_pos rfl]
theorem g_6 (hi : i + 6 ≤ G.1) (hG : G.1 ≤ 3072) (hv : G.2 i &&& 63 = 6) : LT (cdL_h ++ (cdL_6 ++ cdL_e)) G 200 1 (lwSt i σ) = LT (cdL_h ++ (cdL_6 ++ cdL_e)) G 188 1 (510, [some (.ref 130), some (.ref 0), some (.ref 33), some (.ref 63), some (.int (Int32.ofNat i)), none, none], [], σ) := by
  show LT (cdL_h ++ (cdL_6 ++ cdL_e)) G 200 1 (23, [some (.ref 130), some (.ref 0), some (.ref 33), some (.ref 63), some (.int (Int32.ofNat i)), none, none], [], σ) = _
  rw [lw_head, if_neg (lw_in hi hG), pIx (show i < G.1 by omega) (show G.1 < 2147483648 by omega), hv, if_neg (by decide), if_neg (by decide), if_neg (by decide), if_neg (by decide), if_neg (by decide), if_neg (by decide), if_pos rfl]
theorem g_7 (hi : i + 6 ≤ G.1) (hG : G.1 ≤ 3072) (hv : G.2 i &&& 63 = 7) : LT (cdL_h ++ (cdL_7 ++ cdL_e)) G 200 1 (lwSt i σ) = LT (cdL_h ++ (cdL_7 ++ cdL_e)) G 188 1 (578, [some (.ref 130), some (.ref 0), some (.ref 33), some (.ref 63), some (.int (Int32.ofNat i)), none, none], [], σ) := by
  show LT (cdL_h ++ (cdL_7 ++ cdL_e)) G 200 1 (23, [some (.ref 130), some (.ref 0), some (.ref 33), some (.ref 63), some (.int (Int32.ofNat i)), none, none], [], σ) = _
  rw [lw_head, if_neg (lw_in hi hG), pIx (show i < G.1 by omega) (show G.1 < 2147483648 by omega), hv, if_neg (by decide), if_neg (by decide), if_neg (by decide), if_neg (by decide), if_neg (by decide), if_neg (by decide), if_neg (by decide), if_pos rfl]
theorem g_8 (hi : i + 6 ≤ G.1) (hG : G.1 ≤ 3072) (hv : G.2 i &&& 63 = 8) : LT (cdL_h ++ (cdL_8 ++ cdL_e)) G 200 1 (lwSt i σ) = LT (cdL_h ++ (cdL_8 ++ cdL_e)) G 188 1 (646, [some (.ref 130), some (.ref 0), some (.ref 33), some (.ref 63), some (.int (Int32.ofNat i)), none, none], [], σ) := by
  show LT (cdL_h ++ (cdL_8 ++ cdL_e)) G 200 1 (23, [some (.ref 130), some (.ref 0), some (.ref 33), some (.ref 63), some (.int (Int32.ofNat i)), none, none], [], σ) = _
  rw [lw_head, if_neg (lw_in hi hG), pIx (show i < G.1 by omega) (show G.1 < 2147483648 by omega), hv, if_neg (by decide), if_neg (by decide), if_neg (by decide), if_neg (by decide), if_neg (by decide), if_neg (by decide), if_neg (by decide), if_neg (by decide), if_pos rfl]
theorem g_9 (hi : i + 6 ≤ G.1) (hG : G.1 ≤ 3072) (hv : G.2 i &&& 63 = 9) : LT (cdL_h ++ (cdL_9 ++ cdL_e)) G 200 1 (lwSt i σ) = LT (cdL_h ++ (cdL_9 ++ cdL_e)) G 188 1 (709, [some (.ref 130), some (.ref 0), some (.ref 33), some (.ref 63), some (.int (Int32.ofNat i)), none, none], [], σ) := by
  show LT (cdL_h ++ (cdL_9 ++ cdL_e)) G 200 1 (23, [some (.ref 130), some (.ref 0), some (.ref 33), some (.ref 63), some (.int (Int32.ofNat i)), none, none], [], σ) = _
  rw [lw_head, if_neg (lw_in hi hG), pIx (show i < G.1 by omega) (show G.1 < 2147483648 by omega), hv, if_neg (by decide), if_neg (by decide), if_neg (by decide), if_neg (by decide), if_neg (by decide), if_neg (by decide), if_neg (by decide), if_neg (by decide), if_neg (by decide), if_pos rfl]
theorem g_10 (hi : i + 6 ≤ G.1) (hG : G.1 ≤ 3072) (hv : G.2 i &&& 63 = 10) : LT (cdL_h ++ (cdL_10 ++ cdL_e)) G 200 1 (lwSt i σ) = LT (cdL_h ++ (cdL_10 ++ cdL_e)) G 188 1 (777, [some (.ref 130), some (.ref 0), some (.ref 33), some (.ref 63), some (.int (Int32.ofNat i)), none, none], [], σ) := by
  show LT (cdL_h ++ (cdL_10 ++ cdL_e)) G 200 1 (23, [some (.ref 130), some (.ref 0), some (.ref 33), some (.ref 63), some (.int (Int32.ofNat i)), none, none], [], σ) = _
  rw [lw_head, if_neg (lw_in hi hG), pIx (show i < G.1 by omega) (show G.1 < 2147483648 by omega), hv, if_neg (by decide), if_neg (by decide), if_neg (by decide), if_neg (by decide), if_neg (by decide), if_neg (by decide), if_neg (by decide), if_neg (by decide), if_neg (by decide), if_neg (by decide), if_pos rfl]
theorem g_11 (hi : i + 6 ≤ G.1) (hG : G.1 ≤ 3072) (hv : G.2 i &&& 63 = 11) : LT (cdL_h ++ (cdL_11 ++ cdL_e)) G 200 1 (lwSt i σ) = LT (cdL_h ++ (cdL_11 ++ cdL_e)) G 188 1 (869, [some (.ref 130), some (.ref 0), some (.ref 33), some (.ref 63), some (.int (Int32.ofNat i)), none, none], [], σ) := by
  show LT (cdL_h ++ (cdL_11 ++ cdL_e)) G 200 1 (23, [some (.ref 130), some (.ref 0), some (.ref 33), some (.ref 63), some (.int (Int32.ofNat i)), none, none], [], σ) = _
  rw [lw_head, if_neg (lw_in hi hG), pIx (show i < G.1 by omega) (show G.1 < 2147483648 by omega), hv, if_neg (by decide), if_neg (by decide), if_neg (by decide), if_neg (by decide), if_neg (by decide), if_neg (by decide), if_neg (by decide), if_neg (by decide), if_neg (by decide), if_neg (by decide), if_neg (by decide), if_pos rfl]
theorem g_12 (hi : i + 6 ≤ G.1) (hG : G.1 ≤ 3072) (hv : G.2 i &&& 63 = 12) : LT (cdL_h ++ (cdL_12 ++ cdL_e)) G 200 1 (lwSt i σ) = LT (cdL_h ++ (cdL_12 ++ cdL_e)) G 188 1 (961, [some (.ref 130), some (.ref 0), some (.ref 33), some (.ref 63), some (.int (Int32.ofNat i)), none, none], [], σ) := by
  show LT (cdL_h ++ (cdL_12 ++ cdL_e)) G 200 1 (23, [some (.ref 130), some (.ref 0), some (.ref 33), some (.ref 63), some (.int (Int32.ofNat i)), none, none], [], σ) = _
  rw [lw_head, if_neg (lw_in hi hG), pIx (show i < G.1 by omega) (show G.1 < 2147483648 by omega), hv, if_neg (by decide), if_neg (by decide), if_neg (by decide), if_neg (by decide), if_neg (by decide), if_neg (by decide), if_neg (by decide), if_neg (by decide), if_neg (by decide), if_neg (by decide), if_neg (by decide), if_neg (by decide), if_pos rfl]
theorem g_13 (hi : i + 6 ≤ G.1) (hG : G.1 ≤ 3072) (hv : G.2 i &&& 63 = 13) : LT (cdL_h ++ (cdL_13 ++ cdL_e)) G 200 1 (lwSt i σ) = LT (cdL_h ++ (cdL_13 ++ cdL_e)) G 188 1 (1053, [some (.ref 130), some (.ref 0), some (.ref 33), some (.ref 63), some (.int (Int32.ofNat i)), none, none], [], σ) := by
  show LT (cdL_h ++ (cdL_13 ++ cdL_e)) G 200 1 (23, [some (.ref 130), some (.ref 0), some (.ref 33), some (.ref 63), some (.int (Int32.ofNat i)), none, none], [], σ) = _
  rw [lw_head, if_neg (lw_in hi hG), pIx (show i < G.1 by omega) (show G.1 < 2147483648 by omega), hv, if_neg (by decide), if_neg (by decide), if_neg (by decide), if_neg (by decide), if_neg (by decide), if_neg (by decide), if_neg (by decide), if_neg (by decide), if_neg (by decide), if_neg (by decide), if_neg (by decide), if_neg (by decide), if_neg (by decide), if_pos rfl]
theorem g_14 (hi : i + 6 ≤ G.1) (hG : G.1 ≤ 3072) (hv : G.2 i &&& 63 = 14) : LT (cdL_h ++ (cdL_14 ++ cdL_e)) G 200 1 (lwSt i σ) = LT (cdL_h ++ (cdL_14 ++ cdL_e)) G 188 1 (1121, [some (.ref 130), some (.ref 0), some (.ref 33), some (.ref 63), some (.int (Int32.ofNat i)), none, none], [], σ) := by
  show LT (cdL_h ++ (cdL_14 ++ cdL_e)) G 200 1 (23, [some (.ref 130), some (.ref 0), some (.ref 33), some (.ref 63), some (.int (Int32.ofNat i)), none, none], [], σ) = _
  rw [lw_head, if_neg (lw_in hi hG), pIx (show i < G.1 by omega) (show G.1 < 2147483648 by omega), hv, if_neg (by decide), if_neg (by decide), if_neg (by decide), if_neg (by decide), if_neg (by decide), if_neg (by decide), if_neg (by decide), if_neg (by decide), if_neg (by decide), if_neg (by decide), if_neg (by decide), if_neg (by decide), if_neg (by decide), if_neg (by decide), if_pos rfl]
theorem g_15 (hi : i + 6 ≤ G.1) (hG : G.1 ≤ 3072) (hv : G.2 i &&& 63 = 15) : LT (cdL_h ++ (cdL_15 ++ cdL_e)) G 200 1 (lwSt i σ) = LT (cdL_h ++ (cdL_15 ++ cdL_e)) G 188 1 (1208, [some (.ref 130), some (.ref 0), some (.ref 33), some (.ref 63), some (.int (Int32.ofNat i)), none, none], [], σ) := by
  show LT (cdL_h ++ (cdL_15 ++ cdL_e)) G 200 1 (23, [some (.ref 130), some (.ref 0), some (.ref 33), some (.ref 63), some (.int (Int32.ofNat i)), none, none], [], σ) = _
  rw [lw_head, if_neg (lw_in hi hG), pIx (show i < G.1 by omega) (show G.1 < 2147483648 by omega), hv, if_neg (by decide), if_neg (by decide), if_neg (by decide), if_neg (by decide), if_neg (by decide), if_neg (by decide), if_neg (by decide), if_neg (by decide), if_neg (by decide), if_neg (by decide), if_neg (by decide), if_neg (by decide), if_neg (by decide), if_neg (by decide), if_neg (by decide), if_pos rfl]
theorem g_16 (hi : i + 6 ≤ G.1) (hG : G.1 ≤ 3072) (hv : G.2 i &&& 63 = 16) : LT (cdL_h ++ (cdL_16 ++ cdL_e)) G 200 1 (lwSt i σ) = LT (cdL_h ++ (cdL_16 ++ cdL_e)) G 188 1 (1276, [some (.ref 130), some (.ref 0), some (.ref 33), some (.ref 63), some (.int (Int32.ofNat i)), none, none], [], σ) := by
  show LT (cdL_h ++ (cdL_16 ++ cdL_e)) G 200 1 (23, [some (.ref 130), some (.ref 0), some (.ref 33), some (.ref 63), some (.int (Int32.ofNat i)), none, none], [], σ) = _
  rw [lw_head, if_neg (lw_in hi hG), pIx (show i < G.1 by omega) (show G.1 < 2147483648 by omega), hv, if_neg (by decide), if_neg (by decide), if_neg (by decide), if_neg (by decide), if_neg (by decide), if_neg (by decide), if_neg (by decide), if_neg (by decide), if_neg (by decide), if_neg (by decide), if_neg (by decide), if_neg (by decide), if_neg (by decide), if_neg (by decide), if_neg (by decide), if_neg (by decide), if_pos rfl]
theorem g_17 (hi : i + 6 ≤ G.1) (hG : G.1 ≤ 3072) (hv : G.2 i &&& 63 = 17) : LT (cdL_h ++ (cdL_17 ++ cdL_e)) G 200 1 (lwSt i σ) = LT (cdL_h ++ (cdL_17 ++ cdL_e)) G 188 1 (1344, [some (.ref 130), some (.ref 0), some (.ref 33), some (.ref 63), some (.int (Int32.ofNat i)), none, none], [], σ) := by
  show LT (cdL_h ++ (cdL_17 ++ cdL_e)) G 200 1 (23, [some (.ref 130), some (.ref 0), some (.ref 33), some (.ref 63), some (.int (Int32.ofNat i)), none, none], [], σ) = _
  rw [lw_head, if_neg (lw_in hi hG), pIx (show i < G.1 by omega) (show G.1 < 2147483648 by omega), hv, if_neg (by decide), if_neg (by decide), if_neg (by decide), if_neg (by decide), if_neg (by decide), if_neg (by decide), if_neg (by decide), if_neg (by decide), if_neg (by decide), if_neg (by decide), if_neg (by decide), if_neg (by decide), if_neg (by decide), if_neg (by decide), if_neg (by decide), if_neg (by decide), if_neg (by decide), if_pos rfl]
theorem g_18 (hi : i + 6 ≤ G.1) (hG : G.1 ≤ 3072) (hv : G.2 i &&& 63 = 18) : LT (cdL_h ++ (cdL_18 ++ cdL_e)) G 200 1 (lwSt i σ) = LT (cdL_h ++ (cdL_18 ++ cdL_e)) G 188 1 (1400, [some (.ref 130), some (.ref 0), some (.ref 33), some (.ref 63), some (.int (Int32.ofNat i)), none, none], [], σ) := by
  show LT (cdL_h ++ (cdL_18 ++ cdL_e)) G 200 1 (23, [some (.ref 130), some (.ref 0), some (.ref 33), some (.ref 63), some (.int (Int32.ofNat i)), none, none], [], σ) = _
  rw [lw_head, if_neg (lw_in hi hG), pIx (show i < G.1 by omega) (show G.1 < 2147483648 by omega), hv, if_neg (by decide), if_neg (by decide), if_neg (by decide), if_neg (by decide), if_neg (by decide), if_neg (by decide), if_neg (by decide), if_neg (by decide), if_neg (by decide), if_neg (by decide), if_neg (by decide), if_neg (by decide), if_neg (by decide), if_neg (by decide), if_neg (by decide), if_neg (by decide), if_neg (by decide), if_neg (by decide), if_pos rfl]
theorem g_19 (hi : i + 6 ≤ G.1) (hG : G.1 ≤ 3072) (hv : G.2 i &&& 63 = 19) : LT (cdL_h ++ (cdL_19 ++ cdL_e)) G 200 1 (lwSt i σ) = LT (cdL_h ++ (cdL_19 ++ cdL_e)) G 188 1 (1468, [some (.ref 130), some (.ref 0), some (.ref 33), some (.ref 63), some (.int (Int32.ofNat i)), none, none], [], σ) := by
  show LT (cdL_h ++ (cdL_19 ++ cdL_e)) G 200 1 (23, [some (.ref 130), some (.ref 0), some (.ref 33), some (.ref 63), some (.int (Int32.ofNat i)), none, none], [], σ) = _
  rw [lw_head, if_neg (lw_in hi hG), pIx (show i < G.1 by omega) (show G.1 < 2147483648 by omega), hv, if_neg (by decide), if_neg (by decide), if_neg (by decide), if_neg (by decide), if_neg (by decide), if_neg (by decide), if_neg (by decide), if_neg (by decide), if_neg (by decide), if_neg (by decide), if_neg (by decide), if_neg (by decide), if_neg (by decide), if_neg (by decide), if_neg (by decide), if_neg (by decide), if_neg (by decide), if_neg (by decide), if_neg (by decide), if_pos rfl]
theorem g_20 (hi : i + 6 ≤ G.1) (hG : G.1 ≤ 3072) (hv : G.2 i &&& 63 = 20) : LT (cdL_h ++ (cdL_20 ++ cdL_e)) G 200 1 (lwSt i σ) = LT (cdL_h ++ (cdL_20 ++ cdL_e)) G 188 1 (1524, [some (.ref 130), some (.ref 0), some (.ref 33), some (.ref 63), some (.int (Int32.ofNat i)), none, none], [], σ) := by
  show LT (cdL_h ++ (cdL_20 ++ cdL_e)) G 200 1 (23, [some (.ref 130), some (.ref 0), some (.ref 33), some (.ref 63), some (.int (Int32.ofNat i)), none, none], [], σ) = _
  rw [lw_head, if_neg (lw_in hi hG), pIx (show i < G.1 by omega) (show G.1 < 2147483648 by omega), hv, if_neg (by decide), if_neg (by decide), if_neg (by decide), if_neg (by decide), if_neg (by decide), if_neg (by decide), if_neg (by decide), if_neg (by decide), if_neg (by decide), if_neg (by decide), if_neg (by decide), if_neg (by decide), if_neg (by decide), if_neg (by decide), if_neg (by decide), if_neg (by decide), if_neg (by decide), if_neg (by decide), if_neg (by decide), if_neg (by decide), if_pos rfl]
theorem g_21 (hi : i + 6 ≤ G.1) (hG : G.1 ≤ 3072) (hv : G.2 i &&& 63 = 21) : LT (cdL_h ++ (cdL_21 ++ cdL_e)) G 200 1 (lwSt i σ) = LT (cdL_h ++ (cdL_21 ++ cdL_e)) G 188 1 (1616, [some (.ref 130), some (.ref 0), some (.ref 33), some (.ref 63), some (.int (Int32.ofNat i)), none, none], [], σ) := by
  show LT (cdL_h ++ (cdL_21 ++ cdL_e)) G 200 1 (23, [some (.ref 130), some (.ref 0), some (.ref 33), some (.ref 63), some (.int (Int32.ofNat i)), none, none], [], σ) = _
  rw [lw_head, if_neg (lw_in hi hG), pIx (show i < G.1 by omega) (show G.1 < 2147483648 by omega), hv, if_neg (by decide), if_neg (by decide), if_neg (by decide), if_neg (by decide), if_neg (by decide), if_neg (by decide), if_neg (by decide), if_neg (by decide), if_neg (by decide), if_neg (by decide), if_neg (by decide), if_neg (by decide), if_neg (by decide), if_neg (by decide), if_neg (by decide), if_neg (by decide), if_neg (by decide), if_neg (by decide), if_neg (by decide), if_neg (by decide), if_neg (by decide), if_pos rfl]
theorem g_22 (hi : i + 6 ≤ G.1) (hG : G.1 ≤ 3072) (hv : G.2 i &&& 63 = 22) : LT (cdL_h ++ (cdL_22 ++ cdL_e)) G 200 1 (lwSt i σ) = LT (cdL_h ++ (cdL_22 ++ cdL_e)) G 188 1 (1672, [some (.ref 130), some (.ref 0), some (.ref 33), some (.ref 63), some (.int (Int32.ofNat i)), none, none], [], σ) := by
  show LT (cdL_h ++ (cdL_22 ++ cdL_e)) G 200 1 (23, [some (.ref 130), some (.ref 0), some (.ref 33), some (.ref 63), some (.int (Int32.ofNat i)), none, none], [], σ) = _
  rw [lw_head, if_neg (lw_in hi hG), pIx (show i < G.1 by omega) (show G.1 < 2147483648 by omega), hv, if_neg (by decide), if_neg (by decide), if_neg (by decide), if_neg (by decide), if_neg (by decide), if_neg (by decide), if_neg (by decide), if_neg (by decide), if_neg (by decide), if_neg (by decide), if_neg (by decide), if_neg (by decide), if_neg (by decide), if_neg (by decide), if_neg (by decide), if_neg (by decide), if_neg (by decide), if_neg (by decide), if_neg (by decide), if_neg (by decide), if_neg (by decide), if_neg (by decide), if_pos rfl]
theorem g_23 (hi : i + 6 ≤ G.1) (hG : G.1 ≤ 3072) (hv : G.2 i &&& 63 = 23) : LT (cdL_h ++ (cdL_23 ++ cdL_e)) G 200 1 (lwSt i σ) = LT (cdL_h ++ (cdL_23 ++ cdL_e)) G 188 1 (1728, [some (.ref 130), some (.ref 0), some (.ref 33), some (.ref 63), some (.int (Int32.ofNat i)), none, none], [], σ) := by
  show LT (cdL_h ++ (cdL_23 ++ cdL_e)) G 200 1 (23, [some (.ref 130), some (.ref 0), some (.ref 33), some (.ref 63), some (.int (Int32.ofNat i)), none, none], [], σ) = _
  rw [lw_head, if_neg (lw_in hi hG), pIx (show i < G.1 by omega) (show G.1 < 2147483648 by omega), hv, if_neg (by decide), if_neg (by decide), if_neg (by decide), if_neg (by decide), if_neg (by decide), if_neg (by decide), if_neg (by decide), if_neg (by decide), if_neg (by decide), if_neg (by decide), if_neg (by decide), if_neg (by decide), if_neg (by decide), if_neg (by decide), if_neg (by decide), if_neg (by decide), if_neg (by decide), if_neg (by decide), if_neg (by decide), if_neg (by decide), if_neg (by decide), if_neg (by decide), if_neg (by decide), if_pos rfl]
theorem g_24 (hi : i + 6 ≤ G.1) (hG : G.1 ≤ 3072) (hv : G.2 i &&& 63 = 24) : LT (cdL_h ++ (cdL_24 ++ cdL_e)) G 200 1 (lwSt i σ) = LT (cdL_h ++ (cdL_24 ++ cdL_e)) G 188 1 (1784, [some (.ref 130), some (.ref 0), some (.ref 33), some (.ref 63), some (.int (Int32.ofNat i)), none, none], [], σ) := by
  show LT (cdL_h ++ (cdL_24 ++ cdL_e)) G 200 1 (23, [some (.ref 130), some (.ref 0), some (.ref 33), some (.ref 63), some (.int (Int32.ofNat i)), none, none], [], σ) = _
  rw [lw_head, if_neg (lw_in hi hG), pIx (show i < G.1 by omega) (show G.1 < 2147483648 by omega), hv, if_neg (by decide), if_neg (by decide), if_neg (by decide), if_neg (by decide), if_neg (by decide), if_neg (by decide), if_neg (by decide), if_neg (by decide), if_neg (by decide), if_neg (by decide), if_neg (by decide), if_neg (by decide), if_neg (by decide), if_neg (by decide), if_neg (by decide), if_neg (by decide), if_neg (by decide), if_neg (by decide), if_neg (by decide), if_neg (by decide), if_neg (by decide), if_neg (by decide), if_neg (by decide), if_neg (by decide), if_pos rfl]
theorem g_25 (hi : i + 6 ≤ G.1) (hG : G.1 ≤ 3072) (hv : G.2 i &&& 63 = 25) : LT (cdL_h ++ (cdL_25 ++ cdL_e)) G 200 1 (lwSt i σ) = LT (cdL_h ++ (cdL_25 ++ cdL_e)) G 188 1 (1840, [some (.ref 130), some (.ref 0), some (.ref 33), some (.ref 63), some (.int (Int32.ofNat i)), none, none], [], σ) := by
  show LT (cdL_h ++ (cdL_25 ++ cdL_e)) G 200 1 (23, [some (.ref 130), some (.ref 0), some (.ref 33), some (.ref 63), some (.int (Int32.ofNat i)), none, none], [], σ) = _
  rw [lw_head, if_neg (lw_in hi hG), pIx (show i < G.1 by omega) (show G.1 < 2147483648 by omega), hv, if_neg (by decide), if_neg (by decide), if_neg (by decide), if_neg (by decide), if_neg (by decide), if_neg (by decide), if_neg (by decide), if_neg (by decide), if_neg (by decide), if_neg (by decide), if_neg (by decide), if_neg (by decide), if_neg (by decide), if_neg (by decide), if_neg (by decide), if_neg (by decide), if_neg (by decide), if_neg (by decide), if_neg (by decide), if_neg (by decide), if_neg (by decide), if_neg (by decide), if_neg (by decide), if_neg (by decide), if_neg (by decide), if_pos rfl]
theorem g_26 (hi : i + 6 ≤ G.1) (hG : G.1 ≤ 3072) (hv : G.2 i &&& 63 = 26) : LT (cdL_h ++ (cdL_26 ++ cdL_e)) G 200 1 (lwSt i σ) = LT (cdL_h ++ (cdL_26 ++ cdL_e)) G 188 1 (1853, [some (.ref 130), some (.ref 0), some (.ref 33), some (.ref 63), some (.int (Int32.ofNat i)), none, none], [], σ) := by
  show LT (cdL_h ++ (cdL_26 ++ cdL_e)) G 200 1 (23, [some (.ref 130), some (.ref 0), some (.ref 33), some (.ref 63), some (.int (Int32.ofNat i)), none, none], [], σ) = _
  rw [lw_head, if_neg (lw_in hi hG), pIx (show i < G.1 by omega) (show G.1 < 2147483648 by omega), hv, if_neg (by decide), if_neg (by decide), if_neg (by decide), if_neg (by decide), if_neg (by decide), if_neg (by decide), if_neg (by decide), if_neg (by decide), if_neg (by decide), if_neg (by decide), if_neg (by decide), if_neg (by decide), if_neg (by decide), if_neg (by decide), if_neg (by decide), if_neg (by decide), if_neg (by decide), if_neg (by decide), if_neg (by decide), if_neg (by decide), if_neg (by decide), if_neg (by decide), if_neg (by decide), if_neg (by decide), if_neg (by decide), if_neg (by decide), if_pos rfl]
theorem g_27 (hi : i + 6 ≤ G.1) (hG : G.1 ≤ 3072) (hv : G.2 i &&& 63 = 27) : LT (cdL_h ++ (cdL_27 ++ cdL_e)) G 200 1 (lwSt i σ) = LT (cdL_h ++ (cdL_27 ++ cdL_e)) G 188 1 (1933, [some (.ref 130), some (.ref 0), some (.ref 33), some (.ref 63), some (.int (Int32.ofNat i)), none, none], [], σ) := by
  show LT (cdL_h ++ (cdL_27 ++ cdL_e)) G 200 1 (23, [some (.ref 130), some (.ref 0), some (.ref 33), some (.ref 63), some (.int (Int32.ofNat i)), none, none], [], σ) = _
  rw [lw_head, if_neg (lw_in hi hG), pIx (show i < G.1 by omega) (show G.1 < 2147483648 by omega), hv, if_neg (by decide), if_neg (by decide), if_neg (by decide), if_neg (by decide), if_neg (by decide), if_neg (by decide), if_neg (by decide), if_neg (by decide), if_neg (by decide), if_neg (by decide), if_neg (by decide), if_neg (by decide), if_neg (by decide), if_neg (by decide), if_neg (by decide), if_neg (by decide), if_neg (by decide), if_neg (by decide), if_neg (by decide), if_neg (by decide), if_neg (by decide), if_neg (by decide), if_neg (by decide), if_neg (by decide), if_neg (by decide), if_neg (by decide), if_neg (by decide), if_pos rfl]
theorem g_28 (hi : i + 6 ≤ G.1) (hG : G.1 ≤ 3072) (hv : G.2 i &&& 63 = 28) : LT (cdL_h ++ (cdL_28 ++ cdL_e)) G 200 1 (lwSt i σ) = LT (cdL_h ++ (cdL_28 ++ cdL_e)) G 188 1 (2025, [some (.ref 130), some (.ref 0), some (.ref 33), some (.ref 63), some (.int (Int32.ofNat i)), none, none], [], σ) := by
  show LT (cdL_h ++ (cdL_28 ++ cdL_e)) G 200 1 (23, [some (.ref 130), some (.ref 0), some (.ref 33), some (.ref 63), some (.int (Int32.ofNat i)), none, none], [], σ) = _
  rw [lw_head, if_neg (lw_in hi hG), pIx (show i < G.1 by omega) (show G.1 < 2147483648 by omega), hv, if_neg (by decide), if_neg (by decide), if_neg (by decide), if_neg (by decide), if_neg (by decide), if_neg (by decide), if_neg (by decide), if_neg (by decide), if_neg (by decide), if_neg (by decide), if_neg (by decide), if_neg (by decide), if_neg (by decide), if_neg (by decide), if_neg (by decide), if_neg (by decide), if_neg (by decide), if_neg (by decide), if_neg (by decide), if_neg (by decide), if_neg (by decide), if_neg (by decide), if_neg (by decide), if_neg (by decide), if_neg (by decide), if_neg (by decide), if_neg (by decide), if_neg (by decide), if_pos rfl]
theorem g_29 (hi : i + 6 ≤ G.1) (hG : G.1 ≤ 3072) (hv : G.2 i &&& 63 = 29) : LT (cdL_h ++ (cdL_29 ++ cdL_e)) G 200 1 (lwSt i σ) = LT (cdL_h ++ (cdL_29 ++ cdL_e)) G 188 1 (2117, [some (.ref 130), some (.ref 0), some (.ref 33), some (.ref 63), some (.int (Int32.ofNat i)), none, none], [], σ) := by
  show LT (cdL_h ++ (cdL_29 ++ cdL_e)) G 200 1 (23, [some (.ref 130), some (.ref 0), some (.ref 33), some (.ref 63), some (.int (Int32.ofNat i)), none, none], [], σ) = _
  rw [lw_head, if_neg (lw_in hi hG), pIx (show i < G.1 by omega) (show G.1 < 2147483648 by omega), hv, if_neg (by decide), if_neg (by decide), if_neg (by decide), if_neg (by decide), if_neg (by decide), if_neg (by decide), if_neg (by decide), if_neg (by decide), if_neg (by decide), if_neg (by decide), if_neg (by decide), if_neg (by decide), if_neg (by decide), if_neg (by decide), if_neg (by decide), if_neg (by decide), if_neg (by decide), if_neg (by decide), if_neg (by decide), if_neg (by decide), if_neg (by decide), if_neg (by decide), if_neg (by decide), if_neg (by decide), if_neg (by decide), if_neg (by decide), if_neg (by decide), if_neg (by decide), if_neg (by decide), if_pos rfl]
theorem g_30 (hi : i + 6 ≤ G.1) (hG : G.1 ≤ 3072) (hv : G.2 i &&& 63 = 30) : LT (cdL_h ++ (cdL_30 ++ cdL_e)) G 200 1 (lwSt i σ) = LT (cdL_h ++ (cdL_30 ++ cdL_e)) G 188 1 (2197, [some (.ref 130), some (.ref 0), some (.ref 33), some (.ref 63), some (.int (Int32.ofNat i)), none, none], [], σ) := by
  show LT (cdL_h ++ (cdL_30 ++ cdL_e)) G 200 1 (23, [some (.ref 130), some (.ref 0), some (.ref 33), some (.ref 63), some (.int (Int32.ofNat i)), none, none], [], σ) = _
  rw [lw_head, if_neg (lw_in hi hG), pIx (show i < G.1 by omega) (show G.1 < 2147483648 by omega), hv, if_neg (by decide), if_neg (by decide), if_neg (by decide), if_neg (by decide), if_neg (by decide), if_neg (by decide), if_neg (by decide), if_neg (by decide), if_neg (by decide), if_neg (by decide), if_neg (by decide), if_neg (by decide), if_neg (by decide), if_neg (by decide), if_neg (by decide), if_neg (by decide), if_neg (by decide), if_neg (by decide), if_neg (by decide), if_neg (by decide), if_neg (by decide), if_neg (by decide), if_neg (by decide), if_neg (by decide), if_neg (by decide), if_neg (by decide), if_neg (by decide), if_neg (by decide), if_neg (by decide), if_neg (by decide), if_pos rfl]
theorem g_31 (hi : i + 6 ≤ G.1) (hG : G.1 ≤ 3072) (hv : G.2 i &&& 63 = 31) : LT (cdL_h ++ (cdL_31 ++ cdL_e)) G 200 1 (lwSt i σ) = LT (cdL_h ++ (cdL_31 ++ cdL_e)) G 188 1 (2253, [some (.ref 130), some (.ref 0), some (.ref 33), some (.ref 63), some (.int (Int32.ofNat i)), none, none], [], σ) := by
  show LT (cdL_h ++ (cdL_31 ++ cdL_e)) G 200 1 (23, [some (.ref 130), some (.ref 0), some (.ref 33), some (.ref 63), some (.int (Int32.ofNat i)), none, none], [], σ) = _
  rw [lw_head, if_neg (lw_in hi hG), pIx (show i < G.1 by omega) (show G.1 < 2147483648 by omega), hv, if_neg (by decide), if_neg (by decide), if_neg (by decide), if_neg (by decide), if_neg (by decide), if_neg (by decide), if_neg (by decide), if_neg (by decide), if_neg (by decide), if_neg (by decide), if_neg (by decide), if_neg (by decide), if_neg (by decide), if_neg (by decide), if_neg (by decide), if_neg (by decide), if_neg (by decide), if_neg (by decide), if_neg (by decide), if_neg (by decide), if_neg (by decide), if_neg (by decide), if_neg (by decide), if_neg (by decide), if_neg (by decide), if_neg (by decide), if_neg (by decide), if_neg (by decide), if_neg (by decide), if_neg (by decide), if_neg (by decide), if_pos rfl]
theorem g_32 (hi : i + 6 ≤ G.1) (hG : G.1 ≤ 3072) (hv : G.2 i &&& 63 = 32) : LT (cdL_h ++ (cdL_32 ++ cdL_e)) G 200 1 (lwSt i σ) = LT (cdL_h ++ (cdL_32 ++ cdL_e)) G 188 1 (2264, [some (.ref 130), some (.ref 0), some (.ref 33), some (.ref 63), some (.int (Int32.ofNat i)), none, none], [], σ) := by
  show LT (cdL_h ++ (cdL_32 ++ cdL_e)) G 200 1 (23, [some (.ref 130), some (.ref 0), some (.ref 33), some (.ref 63), some (.int (Int32.ofNat i)), none, none], [], σ) = _
  rw [lw_head, if_neg (lw_in hi hG), pIx (show i < G.1 by omega) (show G.1 < 2147483648 by omega), hv, if_neg (by decide), if_neg (by decide), if_neg (by decide), if_neg (by decide), if_neg (by decide), if_neg (by decide), if_neg (by decide), if_neg (by decide), if_neg (by decide), if_neg (by decide), if_neg (by decide), if_neg (by decide), if_neg (by decide), if_neg (by decide), if_neg (by decide), if_neg (by decide), if_neg (by decide), if_neg (by decide), if_neg (by decide), if_neg (by decide), if_neg (by decide), if_neg (by decide), if_neg (by decide), if_neg (by decide), if_neg (by decide), if_neg (by decide), if_neg (by decide), if_neg (by decide), if_neg (by decide), if_neg (by decide), if_neg (by decide), if_neg (by decide), if_pos rfl]
theorem g_else (hi : i + 6 ≤ G.1) (hG : G.1 ≤ 3072) (h0 : ¬ G.2 i &&& 63 = 0) (h1 : ¬ G.2 i &&& 63 = 1) (h2 : ¬ G.2 i &&& 63 = 2) (h3 : ¬ G.2 i &&& 63 = 3) (h4 : ¬ G.2 i &&& 63 = 4) (h5 : ¬ G.2 i &&& 63 = 5) (h6 : ¬ G.2 i &&& 63 = 6) (h7 : ¬ G.2 i &&& 63 = 7) (h8 : ¬ G.2 i &&& 63 = 8) (h9 : ¬ G.2 i &&& 63 = 9) (h10 : ¬ G.2 i &&& 63 = 10) (h11 : ¬ G.2 i &&& 63 = 11) (h12 : ¬ G.2 i &&& 63 = 12) (h13 : ¬ G.2 i &&& 63 = 13) (h14 : ¬ G.2 i &&& 63 = 14) (h15 : ¬ G.2 i &&& 63 = 15) (h16 : ¬ G.2 i &&& 63 = 16) (h17 : ¬ G.2 i &&& 63 = 17) (h18 : ¬ G.2 i &&& 63 = 18) (h19 : ¬ G.2 i &&& 63 = 19) (h20 : ¬ G.2 i &&& 63 = 20) (h21 : ¬ G.2 i &&& 63 = 21) (h22 : ¬ G.2 i &&& 63 = 22) (h23 : ¬ G.2 i &&& 63 = 23) (h24 : ¬ G.2 i &&& 63 = 24) (h25 : ¬ G.2 i &&& 63 = 25) (h26 : ¬ G.2 i &&& 63 = 26) (h27 : ¬ G.2 i &&& 63 = 27) (h28 : ¬ G.2 i &&& 63 = 28) (h29 : ¬ G.2 i &&& 63 = 29) (h30 : ¬ G.2 i &&& 63 = 30) (h31 : ¬ G.2 i &&& 63 = 31) (h32 : ¬ G.2 i &&& 63 = 32) : LT (cdL_h ++ cdL_e) G 200 1 (lwSt i σ) = some (.inl (lwSt (i + 6) σ)) := by
  show LT (cdL_h ++ cdL_e) G 200 1 (23, [some (.ref 130), some (.ref 0), some (.ref 33), some (.ref 63), some (.int (Int32.ofNat i)), none, none], [], σ) = _
  rw [lw_head, if_neg (lw_in hi hG), pIx (show i < G.1 by omega) (show G.1 < 2147483648 by omega), if_neg h0, if_neg h1, if_neg h2, if_neg h3, if_neg h4, if_neg h5, if_neg h6, if_neg h7, if_neg h8, if_neg h9, if_neg h10, if_neg h11, if_neg h12, if_neg h13, if_neg h14, if_neg h15, if_neg h16, if_neg h17, if_neg h18, if_neg h19, if_neg h20, if_neg h21, if_neg h22, if_neg h23, if_neg h24, if_neg h25, if_neg h26, if_neg h27, if_neg h28, if_neg h29, if_neg h30, if_neg h31, if_neg h32, lw_else, pA6]
  rfl
theorem lw_turn (hi : i + 6 ≤ G.1) (hG : G.1 ≤ 3072) (I : Iv σ m) : ∃ σ', lwTurn G i σ = some (.inl (lwSt (i + 6) σ')) ∧ ∃ m', Iv σ' m' := by
  by_cases h0 : G.2 i &&& 63 = 0
  · obtain ⟨m', A⟩ := k_feed (G := G) I.1 (G.2 (i + 1)) (G.2 (i + 2)) (G.2 (i + 3)) (G.2 (i + 4)) (G.2 (i + 5))
    exact lw_fin (fun q h => cdL_in_0 h) (g_0 hi hG h0) (t_0 hi hG I A)
  by_cases h1 : G.2 i &&& 63 = 1
  · obtain ⟨m', A⟩ := k_house (G := G) I.1 (G.2 (i + 1))
    exact lw_fin (fun q h => cdL_in_1 h) (g_1 hi hG h1) (t_1 hi hG I A)
  by_cases h2 : G.2 i &&& 63 = 2
  · obtain ⟨m', A⟩ := k_sheets (G := G) I.1 (G.2 (i + 1))
    exact lw_fin (fun q h => cdL_in_2 h) (g_2 hi hG h2) (t_2 hi hG I A)
  by_cases h3 : G.2 i &&& 63 = 3
  · obtain ⟨m', A⟩ := k_fault (G := G) I.1
    exact lw_fin (fun q h => cdL_in_3 h) (g_3 hi hG h3) (t_3 hi hG I A)
  by_cases h4 : G.2 i &&& 63 = 4
  · obtain ⟨m', A⟩ := k_count (G := G) I.1 (G.2 (i + 1))
    exact lw_fin (fun q h => cdL_in_4 h) (g_4 hi hG h4) (t_4 hi hG I A)
  by_cases h5 : G.2 i &&& 63 = 5
  · obtain ⟨m', A⟩ := k_person (G := G) I.1 (G.2 (i + 1)) (G.2 (i + 2))
    exact lw_fin (fun q h => cdL_in_5 h) (g_5 hi hG h5) (t_5 hi hG I A)
  by_cases h6 : G.2 i &&& 63 = 6
  · obtain ⟨m', A⟩ := k_sitting (G := G) I.1 (G.2 (i + 1)) (G.2 (i + 2))
    exact lw_fin (fun q h => cdL_in_6 h) (g_6 hi hG h6) (t_6 hi hG I A)
  by_cases h7 : G.2 i &&& 63 = 7
  · obtain ⟨m', A⟩ := k_law (G := G) I.1 (G.2 (i + 1)) (G.2 (i + 2))
    exact lw_fin (fun q h => cdL_in_7 h) (g_7 hi hG h7) (t_7 hi hG I A)
  by_cases h8 : G.2 i &&& 63 = 8
  · obtain ⟨m', A⟩ := k_isSaid (G := G) I.1 (G.2 (i + 1))
    exact lw_fin (fun q h => cdL_in_8 h) (g_8 hi hG h8) (t_8 hi hG I (fun v σ' h => b_isSaid I h) A)
  by_cases h9 : G.2 i &&& 63 = 9
  · obtain ⟨m', A⟩ := k_weight (G := G) I.1 (G.2 (i + 1)) (G.2 (i + 2))
    exact lw_fin (fun q h => cdL_in_9 h) (g_9 hi hG h9) (t_9 hi hG I A)
  by_cases h10 : G.2 i &&& 63 = 10
  · obtain ⟨m', A⟩ := k_one (G := G) I.1 (G.2 (i + 1)) (G.2 (i + 2)) (G.2 (i + 3)) (G.2 (i + 4))
    exact lw_fin (fun q h => cdL_in_10 h) (g_10 hi hG h10) (t_10 hi hG I A)
  by_cases h11 : G.2 i &&& 63 = 11
  · obtain ⟨m', A⟩ := k_held (G := G) I.1 (G.2 (i + 1)) (G.2 (i + 2)) (G.2 (i + 3)) (G.2 (i + 4))
    exact lw_fin (fun q h => cdL_in_11 h) (g_11 hi hG h11) (t_11 hi hG I A)
  by_cases h12 : G.2 i &&& 63 = 12
  · obtain ⟨m', A⟩ := k_foretold (G := G) I.1 (G.2 (i + 1)) (G.2 (i + 2)) (G.2 (i + 3)) (G.2 (i + 4))
    exact lw_fin (fun q h => cdL_in_12 h) (g_12 hi hG h12) (t_12 hi hG I A)
  by_cases h13 : G.2 i &&& 63 = 13
  · obtain ⟨m', A⟩ := k_sheet (G := G) I.1 (G.2 (i + 1)) (G.2 (i + 2))
    exact lw_fin (fun q h => cdL_in_13 h) (g_13 hi hG h13) (t_13 hi hG I A)
  by_cases h14 : G.2 i &&& 63 = 14
  · obtain ⟨m', A⟩ := k_tell (G := G) I.1 (G.2 (i + 1)) (G.2 (i + 2)) (G.2 (i + 3))
    exact lw_fin (fun q h => cdL_in_14 h) (g_14 hi hG h14) (t_14 hi hG I (fun v σ' h => b_tell I h) A)
  by_cases h15 : G.2 i &&& 63 = 15
  · obtain ⟨m', A⟩ := k_value (G := G) I.1 (G.2 (i + 1)) (G.2 (i + 2))
    exact lw_fin (fun q h => cdL_in_15 h) (g_15 hi hG h15) (t_15 hi hG I A)
  by_cases h16 : G.2 i &&& 63 = 16
  · obtain ⟨m', A⟩ := k_drawn (G := G) I.1 (G.2 (i + 1)) (G.2 (i + 2))
    exact lw_fin (fun q h => cdL_in_16 h) (g_16 hi hG h16) (t_16 hi hG I A)
  by_cases h17 : G.2 i &&& 63 = 17
  · obtain ⟨m', A⟩ := k_credit (G := G) I.1 (G.2 (i + 1))
    exact lw_fin (fun q h => cdL_in_17 h) (g_17 hi hG h17) (t_17 hi hG I A)
  by_cases h18 : G.2 i &&& 63 = 18
  · obtain ⟨m', A⟩ := k_fails (G := G) I.1 (G.2 (i + 1)) (G.2 (i + 2))
    exact lw_fin (fun q h => cdL_in_18 h) (g_18 hi hG h18) (t_18 hi hG I A)
  by_cases h19 : G.2 i &&& 63 = 19
  · obtain ⟨m', A⟩ := k_apart (G := G) I.1 (G.2 (i + 1))
    exact lw_fin (fun q h => cdL_in_19 h) (g_19 hi hG h19) (t_19 hi hG I A)
  by_cases h20 : G.2 i &&& 63 = 20
  · obtain ⟨m', A⟩ := k_beside (G := G) I.1 (G.2 (i + 1)) (G.2 (i + 2)) (G.2 (i + 3)) (G.2 (i + 4))
    exact lw_fin (fun q h => cdL_in_20 h) (g_20 hi hG h20) (t_20 hi hG I A)
  by_cases h21 : G.2 i &&& 63 = 21
  · obtain ⟨m', A⟩ := k_wished (G := G) I.1 (G.2 (i + 1))
    exact lw_fin (fun q h => cdL_in_21 h) (g_21 hi hG h21) (t_21 hi hG I A)
  by_cases h22 : G.2 i &&& 63 = 22
  · obtain ⟨m', A⟩ := k_slope (G := G) I.1 (G.2 (i + 1))
    exact lw_fin (fun q h => cdL_in_22 h) (g_22 hi hG h22) (t_22 hi hG I A)
  by_cases h23 : G.2 i &&& 63 = 23
  · obtain ⟨m', A⟩ := k_share (G := G) I.1 (G.2 (i + 1))
    exact lw_fin (fun q h => cdL_in_23 h) (g_23 hi hG h23) (t_23 hi hG I A)
  by_cases h24 : G.2 i &&& 63 = 24
  · obtain ⟨m', A⟩ := k_parts (G := G) I.1 (G.2 (i + 1))
    exact lw_fin (fun q h => cdL_in_24 h) (g_24 hi hG h24) (t_24 hi hG I A)
  by_cases h25 : G.2 i &&& 63 = 25
  · obtain ⟨m', A⟩ := k_next (G := G) I.1
    exact lw_fin (fun q h => cdL_in_25 h) (g_25 hi hG h25) (t_25 hi hG I A)
  by_cases h26 : G.2 i &&& 63 = 26
  · obtain ⟨m', A⟩ := k_looked (G := G) I.1 (G.2 (i + 1)) (G.2 (i + 2)) (G.2 (i + 3))
    exact lw_fin (fun q h => cdL_in_26 h) (g_26 hi hG h26) (t_26 hi hG I A)
  by_cases h27 : G.2 i &&& 63 = 27
  · obtain ⟨m', A⟩ := k_at (G := G) I.1 (G.2 (i + 1)) (G.2 (i + 2)) (G.2 (i + 3)) (G.2 (i + 4))
    exact lw_fin (fun q h => cdL_in_27 h) (g_27 hi hG h27) (t_27 hi hG I A)
  by_cases h28 : G.2 i &&& 63 = 28
  · obtain ⟨m', A⟩ := k_falls (G := G) I.1 (G.2 (i + 1)) (G.2 (i + 2)) (G.2 (i + 3)) (G.2 (i + 4))
    exact lw_fin (fun q h => cdL_in_28 h) (g_28 hi hG h28) (t_28 hi hG I A)
  by_cases h29 : G.2 i &&& 63 = 29
  · obtain ⟨m', A⟩ := k_spans (G := G) I.1 (G.2 (i + 1)) (G.2 (i + 2)) (G.2 (i + 3))
    exact lw_fin (fun q h => cdL_in_29 h) (g_29 hi hG h29) (t_29 hi hG I A)
  by_cases h30 : G.2 i &&& 63 = 30
  · obtain ⟨m', A⟩ := k_cold (G := G) I.1 (G.2 (i + 1))
    exact lw_fin (fun q h => cdL_in_30 h) (g_30 hi hG h30) (t_30 hi hG I A)
  by_cases h31 : G.2 i &&& 63 = 31
  · obtain ⟨m', A⟩ := k_image (G := G) I.1
    exact lw_fin (fun q h => cdL_in_31 h) (g_31 hi hG h31) (t_31 hi hG I A)
  by_cases h32 : G.2 i &&& 63 = 32
  · obtain ⟨m', A⟩ := k_restore (G := G) I.1
    exact lw_fin (fun q h => cdL_in_32 h) (g_32 hi hG h32) (t_32 hi hG I A)
  exact ⟨σ, LT_mono lw_in2 200 1 _ _ (g_else hi hG h0 h1 h2 h3 h4 h5 h6 h7 h8 h9 h10 h11 h12 h13 h14 h15 h16 h17 h18 h19 h20 h21 h22 h23 h24 h25 h26 h27 h28 h29 h30 h31 h32), m, I⟩
theorem lw_stop (hi : i ≤ G.1) (h : ¬ i + 6 ≤ G.1) (hG : G.1 ≤ 3072) : lwTurn G i σ = some (.inr (.inl (some (.int 1)), σ)) := by
  refine LT_mono lw_in2 200 1 _ _ ?_
  show LT (cdL_h ++ cdL_e) G 200 1 (23, [some (.ref 130), some (.ref 0), some (.ref 33), some (.ref 63), some (.int (Int32.ofNat i)), none, none], [], σ) = _
  rw [lw_head, if_pos (lw_out hi h hG), lw_end]
end PTurn
