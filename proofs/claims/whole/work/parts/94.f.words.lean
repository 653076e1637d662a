/-! ===== words (by wip/gen/emit_words.py) ===== -/
def KWs : List (List Int32) := [[102, 101, 108, 116], [115, 97, 105, 100], [115, 104, 111, 119, 110], [115, 116, 97, 114, 116], [115, 108, 111, 119], [102, 97, 114], [108, 97, 116, 101], [119, 97, 121], [116, 104, 105, 110, 103], [116, 111, 108, 100], [115, 116, 114, 111, 107, 101, 115], [119, 104, 111], [112, 101, 114, 115, 111, 110], [115, 105, 103, 104, 116], [106, 111, 105, 110, 116], [116, 111, 117, 99, 104], [108, 101, 97, 110, 115], [121, 101, 115], [119, 105, 115, 104], [115, 105, 116, 116, 105, 110, 103], [116, 117, 114, 110, 101, 100], [97, 115, 105, 100, 101], [115, 116, 105, 99, 107], [116, 111, 112], [108, 97, 119], [115, 112, 97, 110, 115], [111, 100, 100, 115], [116, 119, 111], [115, 112, 114, 101, 97, 100], [116, 117, 114, 110], [115, 104, 97, 112, 101], [108, 105, 110, 101], [111, 102, 102], [97, 110, 100], [111, 114], [110, 111, 116], [115, 104, 101, 101, 116], [108, 101, 115, 115], [99, 111, 108, 100]]
def KW (x : Nat) : List Int32 := KWs.getD x []
def pkF (f : Nat → Nat) : Nat → Nat
  | 0 => 0
  | k + 1 => pkF f k * 32 + f k
def wD (w : List Int32) (j : Nat) : Nat := (w.getD j 0).toInt.toNat - 96
def KP (x : Nat) : Nat := pkF (wD (KW x)) (KW x).length
theorem KW_all : ∀ x : Fin 39, 1 ≤ (KW x.val).length ∧ (KW x.val).length ≤ 7 ∧ KP x.val < 34359738368 ∧ ∀ j : Fin 7, j.val < (KW x.val).length → 1 ≤ wD (KW x.val) j.val ∧ wD (KW x.val) j.val ≤ 26 ∧ (KW x.val).getD j.val 0 = Int32.ofNat (wD (KW x.val) j.val + 96) := by decide
section PLet
variable {G : Nat × (Nat → Int32)} {d : Nat} {σ : aH}
theorem wl_0 : Rn G (d + 2) 70 [.int (Int32.ofNat 0)] σ = some (.inl (some (.long (Int64.ofNat (KP 0)))), σ) := by
  rw [e_Md_letters, if_pos (by decide), e_Md_spelled, if_neg (by decide), if_neg (by decide), if_neg (by decide), if_pos (by decide), if_pos (by decide), if_pos (by decide), pCL]
  rfl
theorem wl_1 : Rn G (d + 2) 70 [.int (Int32.ofNat 1)] σ = some (.inl (some (.long (Int64.ofNat (KP 1)))), σ) := by
  rw [e_Md_letters, if_neg (by decide), if_pos (by decide), e_Md_spelled, if_neg (by decide), if_neg (by decide), if_neg (by decide), if_pos (by decide), if_pos (by decide), if_pos (by decide), pCL]
  rfl
theorem wl_2 : Rn G (d + 2) 70 [.int (Int32.ofNat 2)] σ = some (.inl (some (.long (Int64.ofNat (KP 2)))), σ) := by
  rw [e_Md_letters, if_neg (by decide), if_neg (by decide), if_pos (by decide), e_Md_spelled, if_neg (by decide), if_neg (by decide), if_neg (by decide), if_neg (by decide), if_pos (by decide), if_pos (by decide), pCL]
  rfl
theorem wl_3 : Rn G (d + 2) 70 [.int (Int32.ofNat 3)] σ = some (.inl (some (.long (Int64.ofNat (KP 3)))), σ) := by
  rw [e_Md_letters, if_neg (by decide), if_neg (by decide), if_neg (by decide), if_pos (by decide), e_Md_spelled, if_neg (by decide), if_neg (by decide), if_neg (by decide), if_neg (by decide), if_pos (by decide), if_pos (by decide), pCL]
  rfl
theorem wl_4 : Rn G (d + 2) 70 [.int (Int32.ofNat 4)] σ = some (.inl (some (.long (Int64.ofNat (KP 4)))), σ) := by
  rw [e_Md_letters, if_neg (by decide), if_neg (by decide), if_neg (by decide), if_neg (by decide), if_pos (by decide), e_Md_spelled, if_neg (by decide), if_neg (by decide), if_neg (by decide), if_pos (by decide), if_pos (by decide), if_pos (by decide), pCL]
  rfl
theorem wl_5 : Rn G (d + 2) 70 [.int (Int32.ofNat 5)] σ = some (.inl (some (.long (Int64.ofNat (KP 5)))), σ) := by
  rw [e_Md_letters, if_neg (by decide), if_neg (by decide), if_neg (by decide), if_neg (by decide), if_neg (by decide), if_pos (by decide), e_Md_spelled, if_neg (by decide), if_neg (by decide), if_pos (by decide), if_pos (by decide), if_pos (by decide), if_pos (by decide), pCL]
  rfl
theorem wl_6 : Rn G (d + 2) 70 [.int (Int32.ofNat 6)] σ = some (.inl (some (.long (Int64.ofNat (KP 6)))), σ) := by
  rw [e_Md_letters, if_neg (by decide), if_neg (by decide), if_neg (by decide), if_neg (by decide), if_neg (by decide), if_neg (by decide), if_pos (by decide), e_Md_spelled, if_neg (by decide), if_neg (by decide), if_neg (by decide), if_pos (by decide), if_pos (by decide), if_pos (by decide), pCL]
  rfl
theorem wl_7 : Rn G (d + 2) 70 [.int (Int32.ofNat 7)] σ = some (.inl (some (.long (Int64.ofNat (KP 7)))), σ) := by
  rw [e_Md_letters, if_neg (by decide), if_neg (by decide), if_neg (by decide), if_neg (by decide), if_neg (by decide), if_neg (by decide), if_neg (by decide), if_pos (by decide), e_Md_spelled, if_neg (by decide), if_neg (by decide), if_pos (by decide), if_pos (by decide), if_pos (by decide), if_pos (by decide), pCL]
  rfl
theorem wl_8 : Rn G (d + 2) 70 [.int (Int32.ofNat 8)] σ = some (.inl (some (.long (Int64.ofNat (KP 8)))), σ) := by
  rw [e_Md_letters, if_neg (by decide), if_neg (by decide), if_neg (by decide), if_neg (by decide), if_neg (by decide), if_neg (by decide), if_neg (by decide), if_neg (by decide), if_pos (by decide), e_Md_spelled, if_neg (by decide), if_neg (by decide), if_neg (by decide), if_neg (by decide), if_pos (by decide), if_pos (by decide), pCL]
  rfl
theorem wl_9 : Rn G (d + 2) 70 [.int (Int32.ofNat 9)] σ = some (.inl (some (.long (Int64.ofNat (KP 9)))), σ) := by
  rw [e_Md_letters, if_neg (by decide), if_neg (by decide), if_neg (by decide), if_neg (by decide), if_neg (by decide), if_neg (by decide), if_neg (by decide), if_neg (by decide), if_neg (by decide), if_pos (by decide), e_Md_spelled, if_neg (by decide), if_neg (by decide), if_neg (by decide), if_pos (by decide), if_pos (by decide), if_pos (by decide), pCL]
  rfl
theorem wl_10 : Rn G (d + 2) 70 [.int (Int32.ofNat 10)] σ = some (.inl (some (.long (Int64.ofNat (KP 10)))), σ) := by
  rw [e_Md_letters, if_neg (by decide), if_neg (by decide), if_neg (by decide), if_neg (by decide), if_neg (by decide), if_neg (by decide), if_neg (by decide), if_neg (by decide), if_neg (by decide), if_neg (by decide), if_pos (by decide), e_Md_spelled, if_neg (by decide), if_neg (by decide), if_neg (by decide), if_neg (by decide), if_neg (by decide), if_neg (by decide), pCL]
  rfl
theorem wl_11 : Rn G (d + 2) 70 [.int (Int32.ofNat 11)] σ = some (.inl (some (.long (Int64.ofNat (KP 11)))), σ) := by
  rw [e_Md_letters, if_neg (by decide), if_neg (by decide), if_neg (by decide), if_neg (by decide), if_neg (by decide), if_neg (by decide), if_neg (by decide), if_neg (by decide), if_neg (by decide), if_neg (by decide), if_neg (by decide), if_pos (by decide), e_Md_spelled, if_neg (by decide), if_neg (by decide), if_pos (by decide), if_pos (by decide), if_pos (by decide), if_pos (by decide), pCL]
  rfl
theorem wl_12 : Rn G (d + 2) 70 [.int (Int32.ofNat 12)] σ = some (.inl (some (.long (Int64.ofNat (KP 12)))), σ) := by
  rw [e_Md_letters, if_neg (by decide), if_neg (by decide), if_neg (by decide), if_neg (by decide), if_neg (by decide), if_neg (by decide), if_neg (by decide), if_neg (by decide), if_neg (by decide), if_neg (by decide), if_neg (by decide), if_neg (by decide), if_pos (by decide), e_Md_spelled, if_neg (by decide), if_neg (by decide), if_neg (by decide), if_neg (by decide), if_neg (by decide), if_pos (by decide), pCL]
  rfl
theorem wl_13 : Rn G (d + 2) 70 [.int (Int32.ofNat 13)] σ = some (.inl (some (.long (Int64.ofNat (KP 13)))), σ) := by
  rw [e_Md_letters, if_neg (by decide), if_neg (by decide), if_neg (by decide), if_neg (by decide), if_neg (by decide), if_neg (by decide), if_neg (by decide), if_neg (by decide), if_neg (by decide), if_neg (by decide), if_neg (by decide), if_neg (by decide), if_neg (by decide), if_pos (by decide), e_Md_spelled, if_neg (by decide), if_neg (by decide), if_neg (by decide), if_neg (by decide), if_pos (by decide), if_pos (by decide), pCL]
  rfl
theorem wl_14 : Rn G (d + 2) 70 [.int (Int32.ofNat 14)] σ = some (.inl (some (.long (Int64.ofNat (KP 14)))), σ) := by
  rw [e_Md_letters, if_neg (by decide), if_neg (by decide), if_neg (by decide), if_neg (by decide), if_neg (by decide), if_neg (by decide), if_neg (by decide), if_neg (by decide), if_neg (by decide), if_neg (by decide), if_neg (by decide), if_neg (by decide), if_neg (by decide), if_neg (by decide), if_pos (by decide), e_Md_spelled, if_neg (by decide), if_neg (by decide), if_neg (by decide), if_neg (by decide), if_pos (by decide), if_pos (by decide), pCL]
  rfl
theorem wl_15 : Rn G (d + 2) 70 [.int (Int32.ofNat 15)] σ = some (.inl (some (.long (Int64.ofNat (KP 15)))), σ) := by
  rw [e_Md_letters, if_neg (by decide), if_neg (by decide), if_neg (by decide), if_neg (by decide), if_neg (by decide), if_neg (by decide), if_neg (by decide), if_neg (by decide), if_neg (by decide), if_neg (by decide), if_neg (by decide), if_neg (by decide), if_neg (by decide), if_neg (by decide), if_neg (by decide), if_pos (by decide), e_Md_spelled, if_neg (by decide), if_neg (by decide), if_neg (by decide), if_neg (by decide), if_pos (by decide), if_pos (by decide), pCL]
  rfl
theorem wl_16 : Rn G (d + 2) 70 [.int (Int32.ofNat 16)] σ = some (.inl (some (.long (Int64.ofNat (KP 16)))), σ) := by
  rw [e_Md_letters, if_neg (by decide), if_neg (by decide), if_neg (by decide), if_neg (by decide), if_neg (by decide), if_neg (by decide), if_neg (by decide), if_neg (by decide), if_neg (by decide), if_neg (by decide), if_neg (by decide), if_neg (by decide), if_neg (by decide), if_neg (by decide), if_neg (by decide), if_neg (by decide), if_pos (by decide), e_Md_spelled, if_neg (by decide), if_neg (by decide), if_neg (by decide), if_neg (by decide), if_pos (by decide), if_pos (by decide), pCL]
  rfl
theorem wl_17 : Rn G (d + 2) 70 [.int (Int32.ofNat 17)] σ = some (.inl (some (.long (Int64.ofNat (KP 17)))), σ) := by
  rw [e_Md_letters, if_neg (by decide), if_neg (by decide), if_neg (by decide), if_neg (by decide), if_neg (by decide), if_neg (by decide), if_neg (by decide), if_neg (by decide), if_neg (by decide), if_neg (by decide), if_neg (by decide), if_neg (by decide), if_neg (by decide), if_neg (by decide), if_neg (by decide), if_neg (by decide), if_neg (by decide), if_pos (by decide), e_Md_spelled, if_neg (by decide), if_neg (by decide), if_pos (by decide), if_pos (by decide), if_pos (by decide), if_pos (by decide), pCL]
  rfl
theorem wl_18 : Rn G (d + 2) 70 [.int (Int32.ofNat 18)] σ = some (.inl (some (.long (Int64.ofNat (KP 18)))), σ) := by
  rw [e_Md_letters, if_neg (by decide), if_neg (by decide), if_neg (by decide), if_neg (by decide), if_neg (by decide), if_neg (by decide), if_neg (by decide), if_neg (by decide), if_neg (by decide), if_neg (by decide), if_neg (by decide), if_neg (by decide), if_neg (by decide), if_neg (by decide), if_neg (by decide), if_neg (by decide), if_neg (by decide), if_neg (by decide), if_pos (by decide), e_Md_spelled, if_neg (by decide), if_neg (by decide), if_neg (by decide), if_pos (by decide), if_pos (by decide), if_pos (by decide), pCL]
  rfl
theorem wl_19 : Rn G (d + 2) 70 [.int (Int32.ofNat 19)] σ = some (.inl (some (.long (Int64.ofNat (KP 19)))), σ) := by
  rw [e_Md_letters, if_neg (by decide), if_neg (by decide), if_neg (by decide), if_neg (by decide), if_neg (by decide), if_neg (by decide), if_neg (by decide), if_neg (by decide), if_neg (by decide), if_neg (by decide), if_neg (by decide), if_neg (by decide), if_neg (by decide), if_neg (by decide), if_neg (by decide), if_neg (by decide), if_neg (by decide), if_neg (by decide), if_neg (by decide), if_pos (by decide), e_Md_spelled, if_neg (by decide), if_neg (by decide), if_neg (by decide), if_neg (by decide), if_neg (by decide), if_neg (by decide), pCL]
  rfl
theorem wl_20 : Rn G (d + 2) 70 [.int (Int32.ofNat 20)] σ = some (.inl (some (.long (Int64.ofNat (KP 20)))), σ) := by
  rw [e_Md_letters, if_neg (by decide), if_neg (by decide), if_neg (by decide), if_neg (by decide), if_neg (by decide), if_neg (by decide), if_neg (by decide), if_neg (by decide), if_neg (by decide), if_neg (by decide), if_neg (by decide), if_neg (by decide), if_neg (by decide), if_neg (by decide), if_neg (by decide), if_neg (by decide), if_neg (by decide), if_neg (by decide), if_neg (by decide), if_neg (by decide), if_pos (by decide), e_Md_spelled, if_neg (by decide), if_neg (by decide), if_neg (by decide), if_neg (by decide), if_neg (by decide), if_pos (by decide), pCL]
  rfl
theorem wl_21 : Rn G (d + 2) 70 [.int (Int32.ofNat 21)] σ = some (.inl (some (.long (Int64.ofNat (KP 21)))), σ) := by
  rw [e_Md_letters, if_neg (by decide), if_neg (by decide), if_neg (by decide), if_neg (by decide), if_neg (by decide), if_neg (by decide), if_neg (by decide), if_neg (by decide), if_neg (by decide), if_neg (by decide), if_neg (by decide), if_neg (by decide), if_neg (by decide), if_neg (by decide), if_neg (by decide), if_neg (by decide), if_neg (by decide), if_neg (by decide), if_neg (by decide), if_neg (by decide), if_neg (by decide), if_pos (by decide), e_Md_spelled, if_neg (by decide), if_neg (by decide), if_neg (by decide), if_neg (by decide), if_pos (by decide), if_pos (by decide), pCL]
  rfl
theorem wl_22 : Rn G (d + 2) 70 [.int (Int32.ofNat 22)] σ = some (.inl (some (.long (Int64.ofNat (KP 22)))), σ) := by
  rw [e_Md_letters, if_neg (by decide), if_neg (by decide), if_neg (by decide), if_neg (by decide), if_neg (by decide), if_neg (by decide), if_neg (by decide), if_neg (by decide), if_neg (by decide), if_neg (by decide), if_neg (by decide), if_neg (by decide), if_neg (by decide), if_neg (by decide), if_neg (by decide), if_neg (by decide), if_neg (by decide), if_neg (by decide), if_neg (by decide), if_neg (by decide), if_neg (by decide), if_neg (by decide), if_pos (by decide), e_Md_spelled, if_neg (by decide), if_neg (by decide), if_neg (by decide), if_neg (by decide), if_pos (by decide), if_pos (by decide), pCL]
  rfl
theorem wl_23 : Rn G (d + 2) 70 [.int (Int32.ofNat 23)] σ = some (.inl (some (.long (Int64.ofNat (KP 23)))), σ) := by
  rw [e_Md_letters, if_neg (by decide), if_neg (by decide), if_neg (by decide), if_neg (by decide), if_neg (by decide), if_neg (by decide), if_neg (by decide), if_neg (by decide), if_neg (by decide), if_neg (by decide), if_neg (by decide), if_neg (by decide), if_neg (by decide), if_neg (by decide), if_neg (by decide), if_neg (by decide), if_neg (by decide), if_neg (by decide), if_neg (by decide), if_neg (by decide), if_neg (by decide), if_neg (by decide), if_neg (by decide), if_pos (by decide), e_Md_spelled, if_neg (by decide), if_neg (by decide), if_pos (by decide), if_pos (by decide), if_pos (by decide), if_pos (by decide), pCL]
  rfl
theorem wl_24 : Rn G (d + 2) 70 [.int (Int32.ofNat 24)] σ = some (.inl (some (.long (Int64.ofNat (KP 24)))), σ) := by
  rw [e_Md_letters, if_neg (by decide), if_neg (by decide), if_neg (by decide), if_neg (by decide), if_neg (by decide), if_neg (by decide), if_neg (by decide), if_neg (by decide), if_neg (by decide), if_neg (by decide), if_neg (by decide), if_neg (by decide), if_neg (by decide), if_neg (by decide), if_neg (by decide), if_neg (by decide), if_neg (by decide), if_neg (by decide), if_neg (by decide), if_neg (by decide), if_neg (by decide), if_neg (by decide), if_neg (by decide), if_neg (by decide), if_pos (by decide), e_Md_spelled, if_neg (by decide), if_neg (by decide), if_pos (by decide), if_pos (by decide), if_pos (by decide), if_pos (by decide), pCL]
  rfl
theorem wl_25 : Rn G (d + 2) 70 [.int (Int32.ofNat 25)] σ = some (.inl (some (.long (Int64.ofNat (KP 25)))), σ) := by
  rw [e_Md_letters, if_neg (by decide), if_neg (by decide), if_neg (by decide), if_neg (by decide), if_neg (by decide), if_neg (by decide), if_neg (by decide), if_neg (by decide), if_neg (by decide), if_neg (by decide), if_neg (by decide), if_neg (by decide), if_neg (by decide), if_neg (by decide), if_neg (by decide), if_neg (by decide), if_neg (by decide), if_neg (by decide), if_neg (by decide), if_neg (by decide), if_neg (by decide), if_neg (by decide), if_neg (by decide), if_neg (by decide), if_neg (by decide), if_pos (by decide), e_Md_spelled, if_neg (by decide), if_neg (by decide), if_neg (by decide), if_neg (by decide), if_pos (by decide), if_pos (by decide), pCL]
  rfl
theorem wl_26 : Rn G (d + 2) 70 [.int (Int32.ofNat 26)] σ = some (.inl (some (.long (Int64.ofNat (KP 26)))), σ) := by
  rw [e_Md_letters, if_neg (by decide), if_neg (by decide), if_neg (by decide), if_neg (by decide), if_neg (by decide), if_neg (by decide), if_neg (by decide), if_neg (by decide), if_neg (by decide), if_neg (by decide), if_neg (by decide), if_neg (by decide), if_neg (by decide), if_neg (by decide), if_neg (by decide), if_neg (by decide), if_neg (by decide), if_neg (by decide), if_neg (by decide), if_neg (by decide), if_neg (by decide), if_neg (by decide), if_neg (by decide), if_neg (by decide), if_neg (by decide), if_neg (by decide), if_pos (by decide), e_Md_spelled, if_neg (by decide), if_neg (by decide), if_neg (by decide), if_pos (by decide), if_pos (by decide), if_pos (by decide), pCL]
  rfl
theorem wl_27 : Rn G (d + 2) 70 [.int (Int32.ofNat 27)] σ = some (.inl (some (.long (Int64.ofNat (KP 27)))), σ) := by
  rw [e_Md_letters, if_neg (by decide), if_neg (by decide), if_neg (by decide), if_neg (by decide), if_neg (by decide), if_neg (by decide), if_neg (by decide), if_neg (by decide), if_neg (by decide), if_neg (by decide), if_neg (by decide), if_neg (by decide), if_neg (by decide), if_neg (by decide), if_neg (by decide), if_neg (by decide), if_neg (by decide), if_neg (by decide), if_neg (by decide), if_neg (by decide), if_neg (by decide), if_neg (by decide), if_neg (by decide), if_neg (by decide), if_neg (by decide), if_neg (by decide), if_neg (by decide), if_pos (by decide), e_Md_spelled, if_neg (by decide), if_neg (by decide), if_pos (by decide), if_pos (by decide), if_pos (by decide), if_pos (by decide), pCL]
  rfl
theorem wl_28 : Rn G (d + 2) 70 [.int (Int32.ofNat 28)] σ = some (.inl (some (.long (Int64.ofNat (KP 28)))), σ) := by
  rw [e_Md_letters, if_neg (by decide), if_neg (by decide), if_neg (by decide), if_neg (by decide), if_neg (by decide), if_neg (by decide), if_neg (by decide), if_neg (by decide), if_neg (by decide), if_neg (by decide), if_neg (by decide), if_neg (by decide), if_neg (by decide), if_neg (by decide), if_neg (by decide), if_neg (by decide), if_neg (by decide), if_neg (by decide), if_neg (by decide), if_neg (by decide), if_neg (by decide), if_neg (by decide), if_neg (by decide), if_neg (by decide), if_neg (by decide), if_neg (by decide), if_neg (by decide), if_neg (by decide), if_pos (by decide), e_Md_spelled, if_neg (by decide), if_neg (by decide), if_neg (by decide), if_neg (by decide), if_neg (by decide), if_pos (by decide), pCL]
  rfl
theorem wl_29 : Rn G (d + 2) 70 [.int (Int32.ofNat 29)] σ = some (.inl (some (.long (Int64.ofNat (KP 29)))), σ) := by
  rw [e_Md_letters, if_neg (by decide), if_neg (by decide), if_neg (by decide), if_neg (by decide), if_neg (by decide), if_neg (by decide), if_neg (by decide), if_neg (by decide), if_neg (by decide), if_neg (by decide), if_neg (by decide), if_neg (by decide), if_neg (by decide), if_neg (by decide), if_neg (by decide), if_neg (by decide), if_neg (by decide), if_neg (by decide), if_neg (by decide), if_neg (by decide), if_neg (by decide), if_neg (by decide), if_neg (by decide), if_neg (by decide), if_neg (by decide), if_neg (by decide), if_neg (by decide), if_neg (by decide), if_neg (by decide), if_pos (by decide), e_Md_spelled, if_neg (by decide), if_neg (by decide), if_neg (by decide), if_pos (by decide), if_pos (by decide), if_pos (by decide), pCL]
  rfl
theorem wl_30 : Rn G (d + 2) 70 [.int (Int32.ofNat 30)] σ = some (.inl (some (.long (Int64.ofNat (KP 30)))), σ) := by
  rw [e_Md_letters, if_neg (by decide), if_neg (by decide), if_neg (by decide), if_neg (by decide), if_neg (by decide), if_neg (by decide), if_neg (by decide), if_neg (by decide), if_neg (by decide), if_neg (by decide), if_neg (by decide), if_neg (by decide), if_neg (by decide), if_neg (by decide), if_neg (by decide), if_neg (by decide), if_neg (by decide), if_neg (by decide), if_neg (by decide), if_neg (by decide), if_neg (by decide), if_neg (by decide), if_neg (by decide), if_neg (by decide), if_neg (by decide), if_neg (by decide), if_neg (by decide), if_neg (by decide), if_neg (by decide), if_neg (by decide), if_pos (by decide), e_Md_spelled, if_neg (by decide), if_neg (by decide), if_neg (by decide), if_neg (by decide), if_pos (by decide), if_pos (by decide), pCL]
  rfl
theorem wl_31 : Rn G (d + 2) 70 [.int (Int32.ofNat 31)] σ = some (.inl (some (.long (Int64.ofNat (KP 31)))), σ) := by
  rw [e_Md_letters, if_neg (by decide), if_neg (by decide), if_neg (by decide), if_neg (by decide), if_neg (by decide), if_neg (by decide), if_neg (by decide), if_neg (by decide), if_neg (by decide), if_neg (by decide), if_neg (by decide), if_neg (by decide), if_neg (by decide), if_neg (by decide), if_neg (by decide), if_neg (by decide), if_neg (by decide), if_neg (by decide), if_neg (by decide), if_neg (by decide), if_neg (by decide), if_neg (by decide), if_neg (by decide), if_neg (by decide), if_neg (by decide), if_neg (by decide), if_neg (by decide), if_neg (by decide), if_neg (by decide), if_neg (by decide), if_neg (by decide), if_pos (by decide), e_Md_spelled, if_neg (by decide), if_neg (by decide), if_neg (by decide), if_pos (by decide), if_pos (by decide), if_pos (by decide), pCL]
  rfl
theorem wl_32 : Rn G (d + 2) 70 [.int (Int32.ofNat 32)] σ = some (.inl (some (.long (Int64.ofNat (KP 32)))), σ) := by
  rw [e_Md_letters, if_neg (by decide), if_neg (by decide), if_neg (by decide), if_neg (by decide), if_neg (by decide), if_neg (by decide), if_neg (by decide), if_neg (by decide), if_neg (by decide), if_neg (by decide), if_neg (by decide), if_neg (by decide), if_neg (by decide), if_neg (by decide), if_neg (by decide), if_neg (by decide), if_neg (by decide), if_neg (by decide), if_neg (by decide), if_neg (by decide), if_neg (by decide), if_neg (by decide), if_neg (by decide), if_neg (by decide), if_neg (by decide), if_neg (by decide), if_neg (by decide), if_neg (by decide), if_neg (by decide), if_neg (by decide), if_neg (by decide), if_neg (by decide), if_pos (by decide), e_Md_spelled, if_neg (by decide), if_neg (by decide), if_pos (by decide), if_pos (by decide), if_pos (by decide), if_pos (by decide), pCL]
  rfl
theorem wl_33 : Rn G (d + 2) 70 [.int (Int32.ofNat 33)] σ = some (.inl (some (.long (Int64.ofNat (KP 33)))), σ) := by
  rw [e_Md_letters, if_neg (by decide), if_neg (by decide), if_neg (by decide), if_neg (by decide), if_neg (by decide), if_neg (by decide), if_neg (by decide), if_neg (by decide), if_neg (by decide), if_neg (by decide), if_neg (by decide), if_neg (by decide), if_neg (by decide), if_neg (by decide), if_neg (by decide), if_neg (by decide), if_neg (by decide), if_neg (by decide), if_neg (by decide), if_neg (by decide), if_neg (by decide), if_neg (by decide), if_neg (by decide), if_neg (by decide), if_neg (by decide), if_neg (by decide), if_neg (by decide), if_neg (by decide), if_neg (by decide), if_neg (by decide), if_neg (by decide), if_neg (by decide), if_neg (by decide), if_pos (by decide), e_Md_spelled, if_neg (by decide), if_neg (by decide), if_pos (by decide), if_pos (by decide), if_pos (by decide), if_pos (by decide), pCL]
  rfl
theorem wl_34 : Rn G (d + 2) 70 [.int (Int32.ofNat 34)] σ = some (.inl (some (.long (Int64.ofNat (KP 34)))), σ) := by
  rw [e_Md_letters, if_neg (by decide), if_neg (by decide), if_neg (by decide), if_neg (by decide), if_neg (by decide), if_neg (by decide), if_neg (by decide), if_neg (by decide), if_neg (by decide), if_neg (by decide), if_neg (by decide), if_neg (by decide), if_neg (by decide), if_neg (by decide), if_neg (by decide), if_neg (by decide), if_neg (by decide), if_neg (by decide), if_neg (by decide), if_neg (by decide), if_neg (by decide), if_neg (by decide), if_neg (by decide), if_neg (by decide), if_neg (by decide), if_neg (by decide), if_neg (by decide), if_neg (by decide), if_neg (by decide), if_neg (by decide), if_neg (by decide), if_neg (by decide), if_neg (by decide), if_neg (by decide), if_pos (by decide), e_Md_spelled, if_neg (by decide), if_pos (by decide), if_pos (by decide), if_pos (by decide), if_pos (by decide), if_pos (by decide), pCL]
  rfl
theorem wl_35 : Rn G (d + 2) 70 [.int (Int32.ofNat 35)] σ = some (.inl (some (.long (Int64.ofNat (KP 35)))), σ) := by
  rw [e_Md_letters, if_neg (by decide), if_neg (by decide), if_neg (by decide), if_neg (by decide), if_neg (by decide), if_neg (by decide), if_neg (by decide), if_neg (by decide), if_neg (by decide), if_neg (by decide), if_neg (by decide), if_neg (by decide), if_neg (by decide), if_neg (by decide), if_neg (by decide), if_neg (by decide), if_neg (by decide), if_neg (by decide), if_neg (by decide), if_neg (by decide), if_neg (by decide), if_neg (by decide), if_neg (by decide), if_neg (by decide), if_neg (by decide), if_neg (by decide), if_neg (by decide), if_neg (by decide), if_neg (by decide), if_neg (by decide), if_neg (by decide), if_neg (by decide), if_neg (by decide), if_neg (by decide), if_neg (by decide), if_pos (by decide), e_Md_spelled, if_neg (by decide), if_neg (by decide), if_pos (by decide), if_pos (by decide), if_pos (by decide), if_pos (by decide), pCL]
  rfl
theorem wl_36 : Rn G (d + 2) 70 [.int (Int32.ofNat 36)] σ = some (.inl (some (.long (Int64.ofNat (KP 36)))), σ) := by
  rw [e_Md_letters, if_neg (by decide), if_neg (by decide), if_neg (by decide), if_neg (by decide), if_neg (by decide), if_neg (by decide), if_neg (by decide), if_neg (by decide), if_neg (by decide), if_neg (by decide), if_neg (by decide), if_neg (by decide), if_neg (by decide), if_neg (by decide), if_neg (by decide), if_neg (by decide), if_neg (by decide), if_neg (by decide), if_neg (by decide), if_neg (by decide), if_neg (by decide), if_neg (by decide), if_neg (by decide), if_neg (by decide), if_neg (by decide), if_neg (by decide), if_neg (by decide), if_neg (by decide), if_neg (by decide), if_neg (by decide), if_neg (by decide), if_neg (by decide), if_neg (by decide), if_neg (by decide), if_neg (by decide), if_neg (by decide), if_pos (by decide), e_Md_spelled, if_neg (by decide), if_neg (by decide), if_neg (by decide), if_neg (by decide), if_pos (by decide), if_pos (by decide), pCL]
  rfl
theorem wl_37 : Rn G (d + 2) 70 [.int (Int32.ofNat 37)] σ = some (.inl (some (.long (Int64.ofNat (KP 37)))), σ) := by
  rw [e_Md_letters, if_neg (by decide), if_neg (by decide), if_neg (by decide), if_neg (by decide), if_neg (by decide), if_neg (by decide), if_neg (by decide), if_neg (by decide), if_neg (by decide), if_neg (by decide), if_neg (by decide), if_neg (by decide), if_neg (by decide), if_neg (by decide), if_neg (by decide), if_neg (by decide), if_neg (by decide), if_neg (by decide), if_neg (by decide), if_neg (by decide), if_neg (by decide), if_neg (by decide), if_neg (by decide), if_neg (by decide), if_neg (by decide), if_neg (by decide), if_neg (by decide), if_neg (by decide), if_neg (by decide), if_neg (by decide), if_neg (by decide), if_neg (by decide), if_neg (by decide), if_neg (by decide), if_neg (by decide), if_neg (by decide), if_neg (by decide), if_pos (by decide), e_Md_spelled, if_neg (by decide), if_neg (by decide), if_neg (by decide), if_pos (by decide), if_pos (by decide), if_pos (by decide), pCL]
  rfl
theorem wl_38 : Rn G (d + 2) 70 [.int (Int32.ofNat 38)] σ = some (.inl (some (.long (Int64.ofNat (KP 38)))), σ) := by
  rw [e_Md_letters, if_neg (by decide), if_neg (by decide), if_neg (by decide), if_neg (by decide), if_neg (by decide), if_neg (by decide), if_neg (by decide), if_neg (by decide), if_neg (by decide), if_neg (by decide), if_neg (by decide), if_neg (by decide), if_neg (by decide), if_neg (by decide), if_neg (by decide), if_neg (by decide), if_neg (by decide), if_neg (by decide), if_neg (by decide), if_neg (by decide), if_neg (by decide), if_neg (by decide), if_neg (by decide), if_neg (by decide), if_neg (by decide), if_neg (by decide), if_neg (by decide), if_neg (by decide), if_neg (by decide), if_neg (by decide), if_neg (by decide), if_neg (by decide), if_neg (by decide), if_neg (by decide), if_neg (by decide), if_neg (by decide), if_neg (by decide), if_neg (by decide), if_pos (by decide), e_Md_spelled, if_neg (by decide), if_neg (by decide), if_neg (by decide), if_pos (by decide), if_pos (by decide), if_pos (by decide), pCL]
  rfl
theorem s_letters : ∀ (j : Nat), j < 39 → Rn G (d + 2) 70 [.int (Int32.ofNat j)] σ = some (.inl (some (.long (Int64.ofNat (KP j)))), σ)
  | 0, _ => wl_0
  | 1, _ => wl_1
  | 2, _ => wl_2
  | 3, _ => wl_3
  | 4, _ => wl_4
  | 5, _ => wl_5
  | 6, _ => wl_6
  | 7, _ => wl_7
  | 8, _ => wl_8
  | 9, _ => wl_9
  | 10, _ => wl_10
  | 11, _ => wl_11
  | 12, _ => wl_12
  | 13, _ => wl_13
  | 14, _ => wl_14
  | 15, _ => wl_15
  | 16, _ => wl_16
  | 17, _ => wl_17
  | 18, _ => wl_18
  | 19, _ => wl_19
  | 20, _ => wl_20
  | 21, _ => wl_21
  | 22, _ => wl_22
  | 23, _ => wl_23
  | 24, _ => wl_24
  | 25, _ => wl_25
  | 26, _ => wl_26
  | 27, _ => wl_27
  | 28, _ => wl_28
  | 29, _ => wl_29
  | 30, _ => wl_30
  | 31, _ => wl_31
  | 32, _ => wl_32
  | 33, _ => wl_33
  | 34, _ => wl_34
  | 35, _ => wl_35
  | 36, _ => wl_36
  | 37, _ => wl_37
  | 38, _ => wl_38
  | j + 39, h => absurd h (by omega)
end PLet
